/-! update, the end -/
theorem df_kx (X : St) (i a b n : Nat) : KX (dfS X i a b n) = KX X := rfl
theorem df_pw (X : St) (i a b n : Nat) : pwS (dfS X i a b n) i = dfR (pwS X a) (pwS X b) (pwS X i) n ∧ psS (dfS X i a b n) i = dfC (pwS X a) (pwS X b) n := by
  unfold dfS
  rw [pw_ps, pw_pw, va_up_self, ps_ps, va_up_self]
  exact ⟨rfl, rfl⟩
theorem df_ne (X : St) {i j : Nat} (a b n : Nat) (h : j ≠ i) : pwS (dfS X i a b n) j = pwS X j ∧ psS (dfS X i a b n) j = psS X j := by
  unfold dfS
  rw [pw_ps, pw_pw, va_up_ne _ _ h, ps_ps, va_up_ne _ _ h]
  exact ⟨rfl, rfl⟩
theorem df_b (f g o : Nat → Int64) {r : Nat} (hr : r < 262144) : wbt (dfR f g o 4096) r = (wbt f r && !(wbt g r)) := by
  unfold wbt dfR
  rw [if_pos (by omega), tb_df _ _ _ (Nat.mod_lt _ (by decide))]
theorem df_sz (f g o : Nat → Int64) : dfC f g 4096 = nI (ctB (wbt (dfR f g o 4096)) 262144) := by
  rw [dfC_ct, show 64 * 4096 = 262144 from rfl, ctB_eq (p := wbt (dfW f g)) (q := wbt (dfR f g o 4096)) (fun k hk => by unfold wbt dfR; rw [if_pos (by omega)])]
theorem df_nf (X : St) (i a b n : Nat) : nfS (dfS X i a b n) = nfS X := rfl
def KU (T : St) := (mFS T, mIS T 0, mIS T 1, mIS T 6, mZS T, mnS T)
theorem ud_ku : ∀ n i T, KU (udR n i T) = KU T
  | 0, _, _ => rfl
  | n + 1, i, T => by rw [udR, ud_ku n]; rfl
theorem ud_s2 (X : St) (i : Nat) : mIS (udS X i) 2 = va_up (mIS X 2) i (mIS X 3 i) := rfl
theorem ud_s3 (X : St) (i : Nat) : mIS (udS X i) 3 = mIS X 3 := rfl
theorem ud_s4 (X : St) (i : Nat) : mIS (udS X i) 4 = va_up (mIS X 4) i ((mIS X 3 i) &&& ((mIS X 2 i) ^^^ (-1))) := rfl
theorem ud_s5 (X : St) (i : Nat) : mIS (udS X i) 5 = va_up (mIS X 5) i ((mIS X 2 i) &&& ((mIS X 3 i) ^^^ (-1))) := rfl
theorem ud_at : ∀ n i X k, mIS (udR n i X) 4 k = (if i ≤ k ∧ k < i + n then (mIS X 3 k &&& (mIS X 2 k ^^^ (-1))) else mIS X 4 k) ∧ mIS (udR n i X) 5 k = (if i ≤ k ∧ k < i + n then (mIS X 2 k &&& (mIS X 3 k ^^^ (-1))) else mIS X 5 k) ∧ mIS (udR n i X) 2 k = (if i ≤ k ∧ k < i + n then mIS X 3 k else mIS X 2 k)
  | 0, i, X, k => by
    rw [if_neg (by omega), if_neg (by omega), if_neg (by omega)]
    exact ⟨rfl, rfl, rfl⟩
  | n + 1, i, X, k => by
    have ih := ud_at n (i + 1) (udS X i) k
    rw [ud_s2, ud_s3, ud_s4, ud_s5] at ih
    rw [udR]
    by_cases q : k = i
    · subst q
      rw [if_neg (by omega), if_neg (by omega), if_neg (by omega), va_up_self, va_up_self, va_up_self] at ih
      rw [if_pos (by omega), if_pos (by omega), if_pos (by omega)]
      exact ih
    · rw [va_up_ne _ _ q, va_up_ne _ _ q, va_up_ne _ _ q] at ih
      have e : (i + 1 ≤ k ∧ k < i + 1 + n) ↔ (i ≤ k ∧ k < i + (n + 1)) := ⟨fun z => by omega, fun z => by omega⟩
      simp only [e] at ih
      exact ih
def KV (T : St) := (mFS T, mIS T, mZS T 0, mnS T)
theorem ut_kv : ∀ n i T, KV (utR n i T) = KV T
  | 0, _, _ => rfl
  | n + 1, i, T => by rw [utR, ut_kv n]; rfl
theorem ut_at : ∀ n i T k, mZS (utR n i T) 1 k = (if i ≤ k ∧ k < i + n then false else mZS T 1 k)
  | 0, i, T, k => by rw [if_neg (by omega)]; rfl
  | n + 1, i, T, k => by
    rw [utR, ut_at n (i + 1) (utS T i) k]
    have e : mZS (utS T i) 1 = va_up (mZS T 1) i false := rfl
    rw [e]
    by_cases q : k = i
    · subst q
      rw [if_neg (by omega), va_up_self, if_pos (by omega)]
    · rw [va_up_ne _ _ q]
      have e : (i + 1 ≤ k ∧ k < i + 1 + n) ↔ (i ≤ k ∧ k < i + (n + 1)) := ⟨fun z => by omega, fun z => by omega⟩
      simp only [e]
theorem r_update {S T : St} (h : Rel S T) : mnS (udMS T) 0 = cdX xS (upX S) ∧ (upX S = none → udMI T = psS (upF S) (ipS S).2) ∧ Rel (enS (upX S) (upS S 512) (upF S)) (udMS T) := by
  have hi : (ipS S).1 < 2 ∧ (ipS S).2 < 2 ∧ (ipS S).1 ≠ (ipS S).2 := by rcases h.2.2.2.1.2.2.2 with z | z <;> rw [z] <;> decide
  have hKX := up_kx S 512
  have hsz := up_sz h.2.2.2.1.1.2 512 (by omega)
  have hup := fun a c (ha : a < 512) (hc : c < 512) => up_all h.2.2.2.2.1 ha hc
  have hup1 := (up_o S (i := (ipS S).1) hi.2.2 512)
  have hup2 := (up_o S (i := 2) (by omega) 512)
  have hup3 := (up_o S (i := 3) (by omega) 512)
  have hlk := fun a c (ha : a < 512) (hc : c < 512) => (lk_b T ha hc).trans (by rw [lk_pw h.2.1 ha hc])
  have hKL := lk_kl T
  -- the next pairs are the same
  have hbit : ∀ q, q < 262144 → wbt (pwS (upS S 512) (ipS S).2) q = ibt (mIS (lkS T) 3) q := fun q hq => by
    have e : q = q / 512 * 512 + q % 512 := by omega
    rw [e, hup _ _ (by omega) (by omega), hlk _ _ (by omega) (by omega)]
  have hn : biF (mIS (lkS T) 3) 8192 = psS (upS S 512) (ipS S).2 := by
    rw [biF_ct, hsz, show 32 * 8192 = 262144 from rfl, ctB_eq (p := ibt (mIS (lkS T) 3)) (q := wbt (pwS (upS S 512) (ipS S).2)) (fun k hk => (hbit k hk).symm)]
  have hX9 : upX S = if nI 16384 < psS (upS S 512) (ipS S).2 then some xS else none := rfl
  have hF : upF S = nfU (tcU (ipU (dfS (dfS (upS S 512) 2 (ipS S).2 (ipS S).1 4096) 3 (ipS S).1 (ipS S).2 4096) ((ipS S).2, (ipS S).1)) (clT (tcS (dfS (dfS (upS S 512) 2 (ipS S).2 (ipS S).1 4096) 3 (ipS S).1 (ipS S).2 4096)) 512)) (va_up (nfS (upC S 512)) 1 (nfS (upC S 512) 1 + nI 1)) := by unfold upF upC upE upB; rfl
  have hnf : nfS (upC S 512) = nfS (upS S 512) := by unfold upC upE upB; rw [nf_tc, nf_ip, df_nf, df_nf]
  rw [hnf] at hF
  have hU : udMS T = if (!(decide (nI 16384 < biF (mIS (lkS T) 3) 8192)) && true) = true then uuS (utR 512 0 (udR 8192 0 (okS (lkS T)))) else gsS (lkS T) (!(decide (nI 16384 < biF (mIS (lkS T) 3) 8192))) true := by unfold udMS uoB; rfl
  have hI : udMI T = if (!(decide (nI 16384 < biF (mIS (lkS T) 3) 8192)) && true) = true then biF (mIS (lkS T) 3) 8192 else nI 0 := by unfold udMI uoB; rfl
  rw [hn] at hU hI
  obtain ⟨X, hX⟩ : ∃ z, z = upS S 512 := ⟨_, rfl⟩
  obtain ⟨Y, hY⟩ : ∃ z, z = lkS T := ⟨_, rfl⟩
  rw [← hX] at hKX hsz hX9 hF hup1 hup2 hup3 hbit hU hI
  rw [← hY] at hKL hU hbit
  rw [← hX, hX9, hU, hI, Bool.and_true]
  obtain ⟨p1, hp1⟩ : ∃ z, z = (ipS S).1 := ⟨_, rfl⟩
  obtain ⟨p2, hp2⟩ : ∃ z, z = (ipS S).2 := ⟨_, rfl⟩
  rw [← hp1, ← hp2] at hF
  rw [← hp2] at hbit hsz
  rw [← hp1] at hup1
  have hup : ∀ a c, a < 512 → c < 512 → wbt (pwS X p2) (a * 512 + c) = (decide (a < c) && pwB S a c) := fun a c ha hc => by rw [hX, hp2]; exact hup a c ha hc
  rw [← hp1, ← hp2] at hi
  simp only [KX, Prod.mk.injEq] at hKX
  simp only [KL, Prod.mk.injEq] at hKL
  obtain ⟨c1, c2, c3, c4, c5, c6, c7, c8, c9⟩ := hKX
  obtain ⟨m1, m2, m3, m4, m5, m6, m7, m8, m9⟩ := hKL
  rw [← hp2]
  by_cases q : nI 16384 < psS X p2
  · rw [if_pos q, decide_eq_true q]
    refine ⟨rfl, fun z => (by cases z), ?_⟩
    show Rel X (gsS Y false true)
    obtain ⟨h1, h2, h3, ⟨s1, s2, s3, s4⟩, h5, h6, h7⟩ := h
    refine Rel.gs ?_ _ _
    have e1 : pwS X (ipS X).1 = pwS S (ipS S).1 ∧ psS X (ipS X).1 = psS S (ipS S).1 := by rw [c9, ← hp1]; exact hup1
    refine ⟨?_, ?_, ?_, ⟨?_, ?_, ?_, ?_⟩, ?_, ?_, ?_⟩
    · unfold RPad; rw [c1, m1]; exact h1
    · exact h2.tr (by unfold KC; rw [c2, c3, c4, c5]) (fun j _ k _ => by rw [c1]) (by unfold KB; rw [m1, m2, m3, m8])
    · unfold RCnt; rw [c8, c4]; exact h3
    · unfold RSet; rw [e1.1, e1.2, m4]; exact s1
    · unfold RSet; rw [hup2.1, hup2.2, m5]; exact s2
    · unfold RSet; rw [hup3.1, hup3.2, m6]; exact s3
    · rw [c9]; exact s4
    · intro a b ha hb
      rw [e1.1, c5, pw_kx (S := S) (X := X) (by unfold KX; rw [c1, c2, c3, c4, c5, c6, c7, c8, c9])]
      exact h5 a b ha hb
    · unfold RFnd; rw [c6, c7, c8, m1, m7, m9]; exact h6
    · unfold RUpd; rw [c8, m9]; exact h7
  · rw [if_neg q, decide_eq_false q]
    obtain ⟨h1, h2, h3, ⟨s1, s2, s3, s4⟩, h5, h6, h7⟩ := h
    obtain ⟨B, hB⟩ : ∃ z, z = dfS X 2 p2 p1 4096 := ⟨_, rfl⟩
    have b2 := df_pw X 2 p2 p1 4096
    have bn := fun j (hj : j ≠ 2) => df_ne X p2 p1 4096 hj
    have bk := df_kx X 2 p2 p1 4096
    rw [← hB] at hF b2 bk
    obtain ⟨E, hE⟩ : ∃ z, z = dfS B 3 p1 p2 4096 := ⟨_, rfl⟩
    have d3 := df_pw B 3 p1 p2 4096
    have dn := fun j (hj : j ≠ 3) => df_ne B p1 p2 4096 hj
    have dk := df_kx B 3 p1 p2 4096
    rw [← hE] at hF d3 dk
    have ek : KX E = KX S := by rw [dk, bk]; unfold KX; rw [c1, c2, c3, c4, c5, c6, c7, c8, c9]
    have ew : ∀ j, j < 2 → pwS E j = pwS X j ∧ psS E j = psS X j := fun j hj => by
      have a1 := dn j (by omega)
      have a2 := bn j (by omega)
      rw [hE, a1.1, a1.2, hB, a2.1, a2.2]
      exact ⟨rfl, rfl⟩
    have e2 : pwS E 2 = dfR (pwS X p2) (pwS X p1) (pwS X 2) 4096 ∧ psS E 2 = dfC (pwS X p2) (pwS X p1) 4096 := by
      have a1 := dn 2 (by decide)
      rw [hE, a1.1, a1.2]
      exact b2
    have e3 : pwS E 3 = dfR (pwS X p1) (pwS X p2) (pwS X 3) 4096 ∧ psS E 3 = dfC (pwS X p1) (pwS X p2) 4096 := by
      have a1 := bn p1 (by omega)
      have a2 := bn p2 (by omega)
      have a3 := bn 3 (by decide)
      rw [← hB] at a1 a2 a3
      rw [d3.1, d3.2, a1.1, a2.1, a3.1]
      exact ⟨rfl, rfl⟩
    have xp1 : ∀ q, q < 262144 → wbt (pwS X p1) q = ibt (mIS T 2) q := fun q hq => by
      rw [hup1.1, hp1]; exact s1.1 q hq
    simp only [KX, Prod.mk.injEq] at ek
    obtain ⟨k1, k2, k3, k4, k5, k6, k7, k8, k9⟩ := ek
    have hA := ud_at 8192 0 (okS Y)
    have hAk := ud_ku 8192 0 (okS Y)
    obtain ⟨A, hA9⟩ : ∃ z, z = udR 8192 0 (okS Y) := ⟨_, rfl⟩
    rw [← hA9] at hAk
    have hV := ut_at 512 0 A
    have hVk := ut_kv 512 0 A
    obtain ⟨V, hV9⟩ : ∃ z, z = utR 512 0 A := ⟨_, rfl⟩
    rw [← hV9] at hVk
    rw [← hA9, ← hV9]
    simp only [KU, Prod.mk.injEq] at hAk
    simp only [KV, Prod.mk.injEq] at hVk
    obtain ⟨u1, u2, u3, u4, u5, u6⟩ := hAk
    obtain ⟨v1, v2, v3, v4⟩ := hVk
    have hn0 : mnS V 0 = nI 0 := by rw [v4, u6]; rfl
    have hn1 : mnS V 1 = mnS T 1 := by rw [v4, u6, ← m9]; rfl
    have hn2 : mnS V 2 = mnS T 2 := by rw [v4, u6, ← m9]; rfl
    have i2 : ∀ k, k < 8192 → mIS V 2 k = mIS Y 3 k := fun k hk => by
      have := (hA k).2.2
      rw [if_pos (by omega)] at this
      rw [v2, hA9, this]; rfl
    have i4 : ∀ k, k < 8192 → mIS V 4 k = (mIS Y 3 k &&& (mIS Y 2 k ^^^ (-1))) := fun k hk => by
      have := (hA k).1
      rw [if_pos (by omega)] at this
      rw [v2, hA9, this]; rfl
    have i5 : ∀ k, k < 8192 → mIS V 5 k = (mIS Y 2 k &&& (mIS Y 3 k ^^^ (-1))) := fun k hk => by
      have := (hA k).2.1
      rw [if_pos (by omega)] at this
      rw [v2, hA9, this]; rfl
    have cl : ∀ b, b < 512 → clT (tcS E) 512 b = false := fun b hb => by unfold clT; rw [if_pos hb]
    refine ⟨?_, fun _ => ?_, ?_⟩
    · exact hn0
    · rw [hF, ps_nf, ps_tc, ps_ip, (ew p2 hi.2.1).2]
      rfl
    · show Rel (upF S) (uuS V)
      rw [hF]
      refine ⟨⟨fun k hk => ?_, ?_⟩, fun b hb => ?_, ?_, ⟨⟨fun q hq => ?_, ?_⟩, ⟨fun q hq => ?_, ?_⟩, ⟨fun q hq => ?_, ?_⟩, ?_⟩, fun a b ha hb => ⟨fun hab _ _ => ?_, fun hab => ?_⟩, ?_, ?_⟩
      · show bxS E 0 k = mFS V 0 k
        rw [k1, v1, u1]
        show bxS S 0 k = mFS Y 0 k
        rw [m1]; exact h1.1 k hk
      · show Gb (bxS E 0)
        rw [k1]; exact h1.2
      · obtain ⟨⟨a1, a2⟩, ⟨a3, a4⟩, ⟨a5, a6⟩, a7, a8⟩ := h2 b hb
        refine ⟨⟨?_, ?_⟩, ⟨?_, ?_⟩, ⟨fun k hk => ?_, fun k hk => ?_⟩, ?_, ?_⟩
        · show thS E b = mZS V 0 b
          rw [k4, v3, u5]
          show thS S b = mZS Y 0 b
          rw [m8]; exact a1
        · show clT (tcS E) 512 b = mZS V 1 b
          rw [cl b hb, hV9, hV b, if_pos (by omega)]
        · show grS E b = mIS V 0 b
          rw [k2, v2, u2]
          show grS S b = mIS Y 0 b
          rw [m2]; exact a3
        · show mkS E b = mIS V 1 b
          rw [k3, v2, u3]
          show mkS S b = mIS Y 1 b
          rw [m3]; exact a4
        · show bxS E _ k = mFS V 1 _
          rw [k1, v1, u1]
          show bxS S _ k = mFS Y 1 _
          rw [m1]; exact a5 k hk
        · show bxS E _ k = mFS V 2 _
          rw [k1, v1, u1]
          show bxS S _ k = mFS Y 2 _
          rw [m1]; exact a6 k hk
        · show Gb (bxS E _)
          rw [k1]; exact a7
        · show Wb (bxS E _)
          rw [k1]; exact a8
      · show va_up (nfS X) 1 (nfS X 1 + nI 1) 0 = nI (ctB (thS E) 512)
        rw [va_up_ne _ _ (by decide), c8, k4]
        exact h3
      · show wbt (pwS E p2) q = ibt (mIS V 2) q
        rw [(ew p2 hi.2.1).1, hbit q hq]
        unfold ibt
        rw [i2 _ (by omega)]
      · show psS E p2 = nI (ctB (wbt (pwS E p2)) 262144)
        rw [(ew p2 hi.2.1).1, (ew p2 hi.2.1).2]
        exact hsz
      · show wbt (pwS E 2) q = ibt (mIS V 4) q
        rw [e2.1, df_b _ _ _ hq, hbit q hq, xp1 q hq]
        unfold ibt
        rw [i4 _ (by omega), ib_not _ _ (Nat.mod_lt _ (by decide)), m4]
      · show psS E 2 = nI (ctB (wbt (pwS E 2)) 262144)
        rw [e2.1, e2.2]; exact df_sz _ _ _
      · show wbt (pwS E 3) q = ibt (mIS V 5) q
        rw [e3.1, df_b _ _ _ hq, hbit q hq, xp1 q hq]
        unfold ibt
        rw [i5 _ (by omega), ib_not _ _ (Nat.mod_lt _ (by decide)), m4]
      · show psS E 3 = nI (ctB (wbt (pwS E 3)) 262144)
        rw [e3.1, e3.2]; exact df_sz _ _ _
      · show (p2, p1) = (0, 1) ∨ (p2, p1) = (1, 0)
        rw [hp1, hp2]
        rcases s4 with z | z <;> rw [z]
        · exact Or.inr rfl
        · exact Or.inl rfl
      · show wbt (pwS E p2) (a * 512 + b) = (thS E a && (thS E b && (!(grS E a &&& mkS E b == 0) && (!(grS E b &&& mkS E a == 0) && ovF (bxS E (2 * a + 3)) (bxS E (2 * b + 3))))))
        rw [(ew p2 hi.2.1).1, hup a b ha hb, decide_eq_true hab, Bool.true_and, k1, k2, k3, k4]
        rfl
      · show wbt (pwS E p2) (a * 512 + b) = false
        rw [(ew p2 hi.2.1).1, hup a b ha hb, decide_eq_false hab, Bool.false_and]
      · obtain ⟨c, hc, f1, f2, f3⟩ := h6
        refine ⟨c, hc, ?_, ?_, fun k hk => ?_⟩
        · show va_up (nfS X) 1 (nfS X 1 + nI 1) 2 = nI c
          rw [va_up_ne _ _ (by decide), c8]; exact f1
        · show va_up (mnS V) 1 (mnS V 1 + nI 1) 2 = nI c
          rw [va_up_ne _ _ (by decide), hn2]; exact f2
        · show fbS E k = mIS V 6 k ∧ ffS E k = mFS V 3 k ∧ vf_n32 (ffS E k)
          rw [k6, k7, v2, u4, v1, u1]
          show fbS S k = mIS Y 6 k ∧ ffS S k = mFS Y 3 k ∧ vf_n32 (ffS S k)
          rw [m7, m1]
          exact f3 k hk
      · show va_up (nfS X) 1 (nfS X 1 + nI 1) 1 = va_up (mnS V) 1 (mnS V 1 + nI 1) 1
        rw [va_up_self, va_up_self, c8, hn1]
        have h7 : nfS S 1 = mnS T 1 := h7
        rw [h7]
