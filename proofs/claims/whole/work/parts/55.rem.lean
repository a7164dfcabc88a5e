/-! put, remove -/
def KX (S : St) := (bxS S, grS S, mkS S, thS S, tcS S, fbS S, ffS S, nfS S, ipS S)
theorem put_kx (S : St) (i q : Nat) (b : Bool) : KX (putS S i q b) = KX S := by unfold putS; split <;> rfl
theorem put_o (S : St) {i i' : Nat} (q : Nat) (b : Bool) (h : i' ≠ i) : pwS (putS S i q b) i' = pwS S i' ∧ psS (putS S i q b) i' = psS S i' := by
  unfold putS
  split
  · exact ⟨rfl, rfl⟩
  · exact ⟨va_up_ne _ _ h, va_up_ne _ _ h⟩
theorem put_b (S : St) (i q : Nat) (b : Bool) (r : Nat) : wbt (pwS (putS S i q b) i) r = if r = q then b else wbt (pwS S i) r := by
  unfold putS
  by_cases h : hdS S i q = b
  · rw [if_pos h]
    split
    · rename_i e; rw [e]; exact h
    · rfl
  · rw [if_neg h]
    show wbt (va_up (pwS S) i (va_up (pwS S i) (q / 64) (tflip (pwS S i (q / 64)) (q % 64))) i) r = _
    rw [va_up_self, wbt_flip]
    split
    · rename_i e
      rw [e]
      rw [hd_w] at h
      cases hb : b <;> cases hw : wbt (pwS S i) q <;> simp_all
    · rename_i e
      simp [e]
theorem put_sz {S : St} {i q N : Nat} {b : Bool} (hq : q < N) (h : psS S i = nI (ctB (wbt (pwS S i)) N)) : psS (putS S i q b) i = nI (ctB (wbt (pwS (putS S i q b) i)) N) := by
  have e := ct_one (p := wbt (pwS S i)) (p' := wbt (pwS (putS S i q b) i)) (q := q) (fun k hk => by rw [put_b, if_neg hk]) N hq
  have e2 : wbt (pwS (putS S i q b) i) q = b := by rw [put_b, if_pos rfl]
  rw [e2] at e
  by_cases hh : hdS S i q = b
  · have : putS S i q b = S := by unfold putS; rw [if_pos hh]
    rw [this]; exact h
  · have e3 : psS (putS S i q b) i = psS S i + (if b = true then nI 1 else (-1)) := by
      unfold putS
      rw [if_neg hh]
      exact va_up_self _ _ _
    rw [e3, h]
    rw [hd_w] at hh
    cases b
    · have : wbt (pwS S i) q = true := by simpa using hh
      rw [this] at e
      simp at e
      rw [← e]
      simp [pk_m1]
    · have : wbt (pwS S i) q = false := by simpa using hh
      rw [this] at e
      simp at e
      rw [e, if_pos rfl, nI_add]
theorem pcode_ne {k o o' : Nat} (hk : k < 512) (ho : o < 512) (ho' : o' < 512) (h1 : o ≠ k) (h2 : o' ≠ k) (h : o ≠ o') : pcode k o ≠ pcode k o' := by
  unfold pcode
  split <;> split <;> omega
theorem rm_kx (S : St) (k : Nat) : ∀ o, KX (rmS S k o) = KX S
  | 0 => rfl
  | o + 1 => by
    rw [rmS]
    split
    · rw [put_kx]; exact rm_kx S k o
    · exact rm_kx S k o
theorem rm_o (S : St) (k : Nat) {i : Nat} (hi : i ≠ (ipS S).1) : ∀ o, pwS (rmS S k o) i = pwS S i ∧ psS (rmS S k o) i = psS S i
  | 0 => ⟨rfl, rfl⟩
  | o + 1 => by
    rw [rmS]
    split
    · have := put_o (rmS S k o) (i := (ipS (rmS S k o)).1) (i' := i) (pcode k o) false (by rw [rm_ip]; exact hi)
      rw [this.1, this.2]
      exact rm_o S k hi o
    · exact rm_o S k hi o
theorem rm_b (S : St) {k : Nat} (hk : k < 512) (r : Nat) : ∀ o, o ≤ 512 → ((∀ o', o' < o → o' ≠ k → r ≠ pcode k o') → wbt (pwS (rmS S k o) (ipS S).1) r = wbt (pwS S (ipS S).1) r) ∧ ((∃ o', o' < o ∧ o' ≠ k ∧ r = pcode k o') → wbt (pwS (rmS S k o) (ipS S).1) r = false)
  | 0, _ => ⟨fun _ => rfl, fun ⟨o', h, _⟩ => absurd h (Nat.not_lt_zero _)⟩
  | o + 1, ho => by
    obtain ⟨i1, i2⟩ := rm_b S hk r o (by omega)
    rw [rmS, rm_ip]
    by_cases q : apB (rmS S k o) k o = true
    · rw [if_pos q, put_b]
      have hne : o ≠ k := fun z => by unfold apB at q; rw [z] at q; simp at q
      refine ⟨fun h => ?_, fun ⟨o', h1, h2, h3⟩ => ?_⟩
      · rw [if_neg (h o (by omega) hne)]
        exact i1 (fun o' h' => h o' (by omega))
      · split
        · rfl
        · rename_i hr
          exact i2 ⟨o', by rcases Nat.lt_or_ge o' o with z | z
                           · exact z
                           · exact absurd (h3.trans (by rw [show o' = o by omega])) hr, h2, h3⟩
    · rw [if_neg q]
      refine ⟨fun h => i1 (fun o' h' => h o' (by omega)), fun ⟨o', h1, h2, h3⟩ => ?_⟩
      rcases Nat.lt_or_ge o' o with z | z
      · exact i2 ⟨o', z, h2, h3⟩
      · obtain rfl : o' = o := by omega
        have q : apB (rmS S k o') k o' = false := by simpa using q
        unfold apB at q
        rw [rm_ip, hd_w, ← h3] at q
        have : decide (k = o') = false := decide_eq_false (fun z => h2 z.symm)
        rw [this] at q
        simpa using q
theorem rm_sz {S : St} {k : Nat} (hk : k < 512) (h : psS S (ipS S).1 = nI (ctB (wbt (pwS S (ipS S).1)) 262144)) : ∀ o, o ≤ 512 → psS (rmS S k o) (ipS S).1 = nI (ctB (wbt (pwS (rmS S k o) (ipS S).1)) 262144)
  | 0, _ => h
  | o + 1, ho => by
    rw [rmS, rm_ip]
    split
    · exact put_sz (pcode_lt hk (by omega)) (rm_sz hk h o (by omega))
    · exact rm_sz hk h o (by omega)
theorem rm_ap (S : St) {k : Nat} (hk : k < 512) {o : Nat} (ho : o < 512) : apB (rmS S k o) k o = apB S k o := by
  unfold apB
  rw [rm_ip, hd_w, hd_w]
  by_cases h : k = o
  · simp [h]
  · rw [(rm_b S hk (pcode k o) o (by omega)).1 (fun o' h1 h2 => pcode_ne hk ho (by omega) (fun z => h z.symm) h2 (by omega))]
theorem rm_ct (S : St) {k : Nat} (hk : k < 512) : ∀ o, o ≤ 512 → rmC S k o = ctB (apB S k) o
  | 0, _ => rfl
  | o + 1, ho => by rw [rmC, ctB, rm_ct S hk o (by omega), rm_ap S hk (by omega)]
/-! the model's remove -/
theorem cl_b (T : St) {a b r : Nat} (hb : b < 512) : ibt (mIS (clS T a b) 2) r = (ibt (mIS T 2) r && !(decide (r = a * 512 + b))) := by
  have := ibt_clr (mIS T 2) (j := a * 512 + b) (q := r)
  rw [show (a * 512 + b) / 32 = 16 * a + b / 32 by omega, show (a * 512 + b) % 32 = b % 32 by omega] at this
  exact this
def KR (T : St) := (mFS T, mIS T 0, mIS T 1, mIS T 3, mIS T 4, mIS T 5, mIS T 6, mZS T, mnS T)
theorem cl_kr (T : St) (a b : Nat) : KR (clS T a b) = KR T := rfl
theorem rr_kr (k : Nat) : ∀ n o T, KR (rmR k n o T) = KR T
  | 0, _, _ => rfl
  | n + 1, o, T => by
    rw [rmR, rr_kr k n]
    split <;> exact cl_kr _ _ _
theorem rr_b {k : Nat} (hk : k < 512) (r : Nat) : ∀ n o T, o + n ≤ 512 → ((∀ o', o ≤ o' → o' < o + n → r ≠ pcode k o') → ibt (mIS (rmR k n o T) 2) r = ibt (mIS T 2) r) ∧ ((ibt (mIS T 2) r = false ∨ ∃ o', o ≤ o' ∧ o' < o + n ∧ r = pcode k o') → ibt (mIS (rmR k n o T) 2) r = false)
  | 0, o, T, _ => ⟨fun _ => rfl, fun h => h.elim id (fun ⟨o', h1, h2, _⟩ => by omega)⟩
  | n + 1, o, T, ho => by
    obtain ⟨i1, i2⟩ := rr_b hk r n (o + 1) (if o < k then clS T o k else clS T k o) (by omega)
    have e : ibt (mIS (if o < k then clS T o k else clS T k o) 2) r = (ibt (mIS T 2) r && !(decide (r = pcode k o))) := by
      unfold pcode
      by_cases q : o < k
      · rw [if_pos q, if_neg (by omega), cl_b T hk]
      · rw [if_neg q, cl_b T (by omega)]
        by_cases q2 : k < o
        · rw [if_pos q2]
        · rw [if_neg q2, show o = k by omega]
    rw [rmR]
    rw [e] at i1 i2
    refine ⟨fun h => ?_, fun h => ?_⟩
    · rw [i1 (fun o' h1 h2 => h o' (by omega) (by omega)), decide_eq_false (h o (by omega) (by omega))]
      simp
    · refine i2 ?_
      rcases h with h | ⟨o', h1, h2, h3⟩
      · exact Or.inl (by rw [h]; rfl)
      · by_cases q : o' = o
        · subst q
          exact Or.inl (by rw [decide_eq_true h3]; simp)
        · exact Or.inr ⟨o', by omega, by omega, h3⟩
theorem ct_down {t : Nat → Bool} {b n : Nat} (hb : t b = true) (hn : b < n) : ctB (va_up t b false) n + 1 = ctB t n := by
  have := ct_one (p := t) (p' := va_up t b false) (q := b) (fun k hk => va_up_ne _ _ hk) n hn
  rw [hb, va_up_self] at this
  simpa using this
theorem r_remove {S T : St} (h : Rel S T) (k : Int32) : mnS (rmMS T k) 0 = cdX xI (thereX S k) ∧ (thereX S k = none → rmMI T k = nI (rmC S (kN k) 512)) ∧ Rel (enS (thereX S k) S (rmT S (kN k))) (rmMS T k) := by
  unfold rmMS rmMI thereX
  rw [Bool.and_true, kw_kn h.2.1]
  by_cases hk : knI S k = true
  · rw [if_pos hk, if_pos hk, if_pos hk]
    obtain ⟨j, hj, rfl, ht⟩ := th_nat hk
    rw [kN_nI (show j < 65536 by omega)]
    have hKR := rr_kr j 512 0 (okS T)
    have hKX := rm_kx S j 512
    have hmb := fun r => rr_b hj r 512 0 (okS T) (by omega)
    have hcb := fun r => rm_b S hj r 512 (by omega)
    have hsz := rm_sz hj h.2.2.2.1.1.2 512 (by omega)
    have ho := fun i (hi : i ≠ (ipS S).1) => rm_o S j hi 512
    obtain ⟨X, hX⟩ : ∃ z, z = rmS S j 512 := ⟨_, rfl⟩
    obtain ⟨Y, hY⟩ : ∃ z, z = rmR j 512 0 (okS T) := ⟨_, rfl⟩
    rw [← hX] at hKX hsz
    rw [← hY] at hKR
    have eT : rmT S j = nfU (lvS X j) (va_up (nfS (lvS X j)) 0 (nfS (lvS X j) 0 - nI 1)) := by unfold rmT; rw [← hX]
    rw [eT, ← hY, rm_ct S hj 512 (by omega), pk_ok, pk_ct h.2.2.2.1.1 hj]
    simp only [KX, Prod.mk.injEq] at hKX
    simp only [KR, Prod.mk.injEq] at hKR
    obtain ⟨c1, c2, c3, c4, c5, c6, c7, c8, c9⟩ := hKX
    obtain ⟨m1, m2, m3, m4, m5, m6, m7, m8, m9⟩ := hKR
    refine ⟨by show mnS Y 0 = nI 0; rw [m9]; rfl, fun _ => rfl, ?_⟩
    show Rel (nfU (lvS X j) (va_up (nfS (lvS X j)) 0 (nfS (lvS X j) 0 - nI 1))) (leM Y j)
    obtain ⟨h1, h2, h3, ⟨s1, s2, s3, s4⟩, h5, h6, h7⟩ := h
    have hdiag := (h5 j j hj hj).2 (by omega)
    -- bits of the class now
    have hin : ∀ o, o < 512 → wbt (pwS X (ipS S).1) (pcode j o) = false := fun o ho' => by
      by_cases z : o = j
      · subst z
        have e : pcode o o = o * 512 + o := by unfold pcode; rw [if_neg (by omega)]
        rw [hX, (hcb _).1 (fun o' h' hn => by rw [e]; unfold pcode; split <;> omega), e]
        exact hdiag
      · rw [hX]; exact (hcb _).2 ⟨o, ho', z, rfl⟩
    have hout : ∀ r, (∀ o, o < 512 → r ≠ pcode j o) → wbt (pwS X (ipS S).1) r = wbt (pwS S (ipS S).1) r := fun r hr => by
      rw [hX]; exact (hcb r).1 (fun o' h' _ => hr o' h')
    have hpq : ∀ a b, a < b → a < 512 → b < 512 → a ≠ j → b ≠ j → ∀ o, o < 512 → a * 512 + b ≠ pcode j o := fun a b hab ha hb haj hbj o ho' => by
      unfold pcode
      split <;> omega
    have hip : ipS (nfU (lvS X j) (va_up (nfS (lvS X j)) 0 (nfS (lvS X j) 0 - nI 1))) = ipS S := c9
    have hpw : pwS (nfU (lvS X j) (va_up (nfS (lvS X j)) 0 (nfS (lvS X j) 0 - nI 1))) = pwS X := rfl
    have hps : psS (nfU (lvS X j) (va_up (nfS (lvS X j)) 0 (nfS (lvS X j) 0 - nI 1))) = psS X := rfl
    have hi1 : (ipS S).1 < 2 := by rcases s4 with z | z <;> rw [z] <;> decide
    have g2 : (2 : Nat) ≠ (ipS S).1 := by omega
    have g3 : (3 : Nat) ≠ (ipS S).1 := by omega
    refine ⟨⟨fun q hq => ?_, ?_⟩, fun b hb => ?_, ?_, ⟨⟨fun q hq => ?_, ?_⟩, ⟨fun q hq => ?_, ?_⟩, ⟨fun q hq => ?_, ?_⟩, ?_⟩, fun a b ha hb => ⟨fun hab ta tb => ?_, fun hab => ?_⟩, ?_, ?_⟩
    · show bxS X 0 q = mFS Y 0 q
      rw [c1, m1]; exact h1.1 q hq
    · show Gb (bxS X 0)
      rw [c1]; exact h1.2
    · obtain ⟨⟨a1, a2⟩, ⟨a3, a4⟩, ⟨a5, a6⟩, a7, a8⟩ := h2 b hb
      refine ⟨⟨?_, ?_⟩, ⟨?_, ?_⟩, ⟨fun q hq => ?_, fun q hq => ?_⟩, ?_, ?_⟩
      · show va_up (thS X) j false b = va_up (mZS Y 0) j false b
        rw [c4, m8]; unfold va_up; rw [a1]; rfl
      · show va_up (tcS X) j false b = va_up (mZS Y 1) j false b
        rw [c5, m8]; unfold va_up; rw [a2]; rfl
      · show grS X b = mIS Y 0 b
        rw [c2, m2]; exact a3
      · show mkS X b = mIS Y 1 b
        rw [c3, m3]; exact a4
      · show bxS X _ q = mFS Y 1 _
        rw [c1, m1]; exact a5 q hq
      · show bxS X _ q = mFS Y 2 _
        rw [c1, m1]; exact a6 q hq
      · show Gb (bxS X _)
        rw [c1]; exact a7
      · show Wb (bxS X _)
        rw [c1]; exact a8
    · show nfS X 0 - nI 1 = nI (ctB (va_up (thS X) j false) 512)
      have h3 : nfS S 0 = nI (ctB (thS S) 512) := h3
      have := ct_down ht hj
      rw [c8, c4, h3, ← this, pk_sub (by omega)]
      rfl
    · rw [hip, hpw]
      show _ = ibt (mIS Y 2) q
      by_cases z : ∃ o, o < 512 ∧ q = pcode j o
      · obtain ⟨o, ho', rfl⟩ := z
        rw [hin o ho', hY, (hmb _).2 (Or.inr ⟨o, by omega, by omega, rfl⟩)]
      · have z2 : ∀ o, o < 512 → q ≠ pcode j o := fun o ho' e => z ⟨o, ho', e⟩
        rw [hout q z2, hY, (hmb q).1 (fun o' _ h' => z2 o' (by omega))]
        exact s1.1 q hq
    · rw [hip, hpw, hps]; exact hsz
    · show wbt (pwS X 2) q = ibt (mIS Y 4) q
      rw [hX, (ho 2 g2).1, m5]; exact s2.1 q hq
    · show psS X 2 = nI (ctB (wbt (pwS X 2)) 262144)
      rw [hX, (ho 2 g2).1, (ho 2 g2).2]; exact s2.2
    · show wbt (pwS X 3) q = ibt (mIS Y 5) q
      rw [hX, (ho 3 g3).1, m6]; exact s3.1 q hq
    · show psS X 3 = nI (ctB (wbt (pwS X 3)) 262144)
      rw [hX, (ho 3 g3).1, (ho 3 g3).2]; exact s3.2
    · show ipS X = (0, 1) ∨ ipS X = (1, 0)
      rw [c9]; exact s4
    · rw [hip, hpw]
      have ta : va_up (tcS X) j false a = false := ta
      have tb : va_up (tcS X) j false b = false := tb
      rw [c5] at ta tb
      show _ = (va_up (thS X) j false a && (va_up (thS X) j false b && (!(grS X a &&& mkS X b == 0) && (!(grS X b &&& mkS X a == 0) && ovF (bxS X (2 * a + 3)) (bxS X (2 * b + 3))))))
      rw [c1, c2, c3, c4]
      by_cases qa : a = j
      · subst qa
        rw [va_up_self, show a * 512 + b = pcode a b by unfold pcode; rw [if_pos hab], hin b hb]
        rfl
      · by_cases qb : b = j
        · subst qb
          rw [va_up_self, show a * 512 + b = pcode b a by unfold pcode; rw [if_neg (by omega)], hin a ha]
          simp
        · rw [va_up_ne _ _ qa] at ta
          rw [va_up_ne _ _ qb] at tb
          rw [va_up_ne _ _ qa, va_up_ne _ _ qb, hout _ (hpq a b hab ha hb qa qb)]
          exact (h5 a b ha hb).1 hab ta tb
    · rw [hip, hpw]
      by_cases z : ∃ o, o < 512 ∧ a * 512 + b = pcode j o
      · obtain ⟨o, ho', e⟩ := z
        rw [e]; exact hin o ho'
      · rw [hout _ (fun o ho' e => z ⟨o, ho', e⟩)]
        exact (h5 a b ha hb).2 hab
    · obtain ⟨c, hc, e1, e2, e3⟩ := h6
      refine ⟨c, hc, ?_, ?_, fun q hq => ?_⟩
      · show nfS X 2 = nI c
        rw [c8]; exact e1
      · show mnS Y 2 = nI c
        rw [m9]; exact e2
      · show fbS X q = mIS Y 6 q ∧ ffS X q = mFS Y 3 q ∧ vf_n32 (ffS X q)
        rw [c6, c7, m7, m1]; exact e3 q hq
    · show nfS X 1 = mnS Y 1
      rw [c8, m9]; exact h7
  · have hf : knI S k = false := by simpa using hk
    rw [if_neg hk, if_neg hk, if_neg hk, hf]
    exact ⟨rfl, fun z => (by cases z), h.gs _ _⟩
