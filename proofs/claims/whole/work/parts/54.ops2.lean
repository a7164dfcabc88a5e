/-! about, paired, count, pair -/
theorem ip_hd {S T : St} (h : RSet S T (ipS S).1 2) {a b : Nat} (ha : a < 512) (hb : b < 512) : ipF T a b = hdS S (ipS S).1 (pcode a b) := by
  unfold ipF pcode
  rw [hd_w]
  split
  · rw [bt_i _ hb, h.1 _ (by omega)]
  · rw [bt_i _ ha, h.1 _ (by omega)]
theorem pk_ap {S T : St} (h : RSet S T (ipS S).1 2) {a b : Nat} (ha : a < 512) (hb : b < 512) : pkF T a b = apB S a b := by
  unfold pkF apB
  rw [ip_hd h ha hb]
  congr 2
  exact decide_eq_decide.mpr ⟨fun z => z.symm, fun z => z.symm⟩
theorem pk_ct {S T : St} (h : RSet S T (ipS S).1 2) {a : Nat} (ha : a < 512) : ctB (pkF T a) 512 = ctB (apB S a) 512 := ctB_eq (fun _ hk => pk_ap h ha hk)
theorem pk_ok (T : St) : pkF (okS T) = pkF T := rfl
theorem ip_ok (T : St) : ipF (okS T) = ipF T := rfl
theorem one_v {b : Bool} {E : String} : gsV b true = cdX E (if b = true then none else some E) := by
  cases b <;> simp [gsV, cdX]
theorem th_t {S : St} {k : Int32} (h : thereX S k = none) : knI S k = true := by
  unfold thereX at h
  by_cases q : knI S k = true
  · exact q
  · rw [if_neg q] at h; cases h
theorem if_n {b : Bool} {E : String} (h : (if b = true then none else some E) = none) : b = true := by
  cases b
  · cases h
  · rfl
theorem r_about {S T : St} (h : Rel S T) (k wh : Int32) : mnS (aoMS T k wh) 0 = cdX xI (orX (thereX S k) (whX wh (nI 4))) ∧ (orX (thereX S k) (whX wh (nI 4)) = none → aoM T k wh = abF S k wh) ∧ Rel S (aoMS T k wh) := by
  rw [wh_b (n := 3) (by decide)]
  unfold aoMS aoM
  rw [gs_v, Bool.and_true, kw_kn h.2.1]
  refine ⟨two_v, fun hn => ?_, h.gs _ _⟩
  obtain ⟨h1, h2⟩ := or_none.mp hn
  have h1 := th_t h1
  have h2 := if_n h2
  rw [h1, h2, if_pos (show (true && true) = true from rfl)]
  obtain ⟨j, hj, rfl, -⟩ := th_nat h1
  obtain ⟨w, hw, rfl⟩ := wh_nat (by decide) h2
  obtain ⟨⟨a1, a2⟩, ⟨a3, a4⟩, -⟩ := h.2.1 j hj
  unfold abF
  rw [pk_ok, kN_nI (show j < 65536 by omega), a2, a3, a4, pk_ct h.2.2.2.1.1 hj]
  rfl
theorem r_paired {S T : St} (h : Rel S T) (a b : Int32) : mnS (pdMS T a b) 0 = cdX xI (orX (thereX S a) (thereX S b)) ∧ (orX (thereX S a) (thereX S b) = none → pdM T a b = apB S (kN a) (kN b)) ∧ Rel S (pdMS T a b) := by
  unfold pdMS pdM
  rw [gs_v, Bool.and_true, kw_kn h.2.1, kw_kn h.2.1]
  refine ⟨two_v, fun hn => ?_, h.gs _ _⟩
  obtain ⟨h1, h2⟩ := or_none.mp hn
  have h1 := th_t h1
  have h2 := th_t h2
  rw [h1, h2]
  obtain ⟨j, hj, rfl, -⟩ := th_nat h1
  obtain ⟨w, hw, rfl, -⟩ := th_nat h2
  unfold apB
  rw [ip_ok, kN_nI (show j < 65536 by omega), kN_nI (show w < 65536 by omega), ip_hd h.2.2.2.1.1 hj hw, Bool.true_and, Bool.true_and]
  congr 2
  exact decide_eq_decide.mpr (nI_eq (by omega) (by omega))
theorem bi_ps {S T : St} {i j : Nat} (h : RSet S T i j) : biF (mIS T j) 8192 = psS S i := by
  rw [biF_ct, h.2, show 32 * 8192 = 262144 from rfl, ctB_eq (p := ibt (mIS T j)) (q := wbt (pwS S i)) (fun k hk => (h.1 k hk).symm)]
theorem r_count {S T : St} (h : Rel S T) (wh : Int32) : mnS (cuMS T wh) 0 = cdX xI (whX wh (nI 7)) ∧ (whX wh (nI 7) = none → cuM T wh = coF S wh) ∧ Rel S (cuMS T wh) := by
  rw [wh_b (n := 6) (by decide)]
  unfold cuMS cuM
  rw [gs_v, Bool.and_true]
  refine ⟨one_v, fun hn => ?_, h.gs _ _⟩
  have h2 := if_n hn
  rw [if_pos h2]
  obtain ⟨h1, hB, h3, ⟨s1, s2, s3, -⟩, h5, ⟨c, hc, e1, e2, -⟩, h7⟩ := h
  have h3 : nfS S 0 = nI (ctB (thS S) 512) := h3
  have h7 : nfS S 1 = mnS T 1 := h7
  unfold coF
  rw [bi_ps s1, bi_ps s2, bi_ps s3, h3, h7, e1, e2, ctB_eq (p := mZS T 0) (q := thS S) (fun b hb => (hB b hb).1.1.symm), ctB_eq (p := mZS T 1) (q := tcS S) (fun b hb => (hB b hb).1.2.symm)]
theorem r_nth {S T : St} {i j : Nat} (h : RSet S T i j) {k : Nat} (hk : k < 2 ^ 31) : caF (pwS S i) 4096 0 (nI k) = ntO (mIS T j) 8192 0 (nI k) ∧ (nI k < psS S i ↔ ¬ ntO (mIS T j) 8192 0 (nI k) < 0) := by
  have e1 := caF_nx (pwS S i) 4096 0 k hk (by omega)
  have e2 := ntO_nx (mIS T j) 8192 0 k hk (by omega)
  rw [show 64 * 4096 = 262144 from rfl, Nat.mul_zero] at e1
  rw [show 32 * 8192 = 262144 from rfl, Nat.mul_zero] at e2
  have e3 : nx (wbt (pwS S i)) 262144 0 k = nx (ibt (mIS T j)) 262144 0 k := nx_eq _ _ _ (fun q hq => by rw [Nat.zero_add]; exact h.1 q hq)
  have e4 : ctF (wbt (pwS S i)) 0 262144 = ctB (wbt (pwS S i)) 262144 := by
    unfold ctF
    exact ctB_eq (fun q _ => by rw [Nat.zero_add])
  have e5 := nx_none (wbt (pwS S i)) 262144 0 k
  have e6 := ctB_le (wbt (pwS S i)) 262144
  refine ⟨by rw [e1, e2, e3], ?_⟩
  rw [e2, ← e3, h.2]
  rw [e4] at e5
  cases hx : nx (wbt (pwS S i)) 262144 0 k with
  | none =>
    have := e5.mp hx
    refine ⟨fun q => ?_, fun q => ?_⟩
    · have := (nI_ltI hk (by omega)).mp q
      omega
    · exact absurd (show (-1 : Int32) < 0 by decide) q
  | some y =>
    have l := nx_lt _ _ _ _ _ hx
    have n1 : ¬ ctB (wbt (pwS S i)) 262144 ≤ k := fun z => by rw [e5.mpr z] at hx; cases hx
    exact ⟨fun _ => nI_pos (show y < 2 ^ 31 by omega), fun _ => nI_lt (by omega) (by omega)⟩
theorem r_pair {S T : St} (h : Rel S T) (wh k : Int32) : mnS (prMS T wh k) 0 = cdX xI (prX S wh k) ∧ (prX S wh k = none → prMI T wh k = caF (pwS S (prI S wh)) 4096 0 k) ∧ Rel S (prMS T wh k) := by
  have key : ∀ (i j : Nat), RSet S T i j → (wh < 0 ↔ False) → (nI 2 < wh ↔ False) → prI S wh = i → (¬ k < 0 → prM T wh k = ntO (mIS T j) 8192 0 k) → (k < 0 → prM T wh k = -1) → mnS (prMS T wh k) 0 = cdX xI (prX S wh k) ∧ (prX S wh k = none → prMI T wh k = caF (pwS S (prI S wh)) 4096 0 k) := by
    intro i j hR w1 w2 e1 e2 e3
    unfold prMS prMI prX
    rw [gs_v, if_neg w1.mp, if_neg w2.mp, e1, Bool.and_true]
    by_cases q : k < 0
    · rw [if_pos q, e3 q]
      exact ⟨by decide, fun z => by cases z⟩
    · rw [if_neg q, e2 q]
      obtain ⟨kn, hk, rfl⟩ := nI_of q
      obtain ⟨n1, n2⟩ := r_nth hR hk
      by_cases q2 : nI kn < psS S i
      · rw [if_pos q2, n1]
        have q3 := n2.mp q2
        refine ⟨?_, fun _ => ?_⟩
        · rw [decide_eq_false q3]; rfl
        · rw [decide_eq_false q3]; rfl
      · rw [if_neg q2]
        have q3 : ntO (mIS T j) 8192 0 (nI kn) < 0 := by
          by_cases z : ntO (mIS T j) 8192 0 (nI kn) < 0
          · exact z
          · exact absurd (n2.mpr z) q2
        refine ⟨?_, fun z => by cases z⟩
        rw [decide_eq_true q3]; rfl
  obtain ⟨s1, s2, s3, -⟩ := h.2.2.2.1
  have fin : mnS (prMS T wh k) 0 = cdX xI (prX S wh k) ∧ (prX S wh k = none → prMI T wh k = caF (pwS S (prI S wh)) 4096 0 k) := by
    by_cases w0 : wh = 0
    · subst w0
      refine key _ 2 s1 (by decide) (by decide) (by unfold prI; rw [if_pos rfl]) (fun q => ?_) (fun q => ?_)
      · unfold prM; rw [if_neg q, if_pos rfl]
      · unfold prM; rw [if_pos q]
    · by_cases w1 : wh = nI 1
      · subst w1
        refine key _ 4 s2 (by decide) (by decide) (by unfold prI; rw [if_neg w0, if_pos rfl]) (fun q => ?_) (fun q => ?_)
        · unfold prM; rw [if_neg q, if_neg w0, if_pos rfl]
        · unfold prM; rw [if_pos q]
      · by_cases w2 : wh = nI 2
        · subst w2
          refine key _ 5 s3 (by decide) (by decide) (by unfold prI; rw [if_neg w0, if_neg w1]) (fun q => ?_) (fun q => ?_)
          · unfold prM; rw [if_neg q, if_neg w0, if_neg w1, if_pos rfl]
          · unfold prM; rw [if_pos q]
        · have e : prM T wh k = -1 := by
            unfold prM
            by_cases q : k < 0
            · rw [if_pos q]
            · rw [if_neg q, if_neg w0, if_neg w1, if_neg w2]
          have e2 : prX S wh k = some xI := by
            unfold prX
            by_cases q : wh < 0
            · rw [if_pos q]
            · rw [if_neg q, if_pos]
              obtain ⟨j, hj, rfl⟩ := nI_of q
              refine nI_lt ?_ hj
              rcases Nat.lt_or_ge 2 j with z | z
              · exact z
              · rcases (show j = 0 ∨ j = 1 ∨ j = 2 by omega) with rfl | rfl | rfl
                · exact absurd rfl w0
                · exact absurd rfl w1
                · exact absurd rfl w2
          unfold prMS prMI
          rw [gs_v, e, e2]
          exact ⟨by decide, fun z => by cases z⟩
  exact ⟨fin.1, fin.2, h.gs _ _⟩
