/-! update -/
theorem pw_kx {S X : St} (e : KX X = KX S) (a b : Nat) : pwB X a b = pwB S a b := by
  simp only [KX, Prod.mk.injEq] at e
  obtain ⟨c1, c2, c3, c4, c5, c6, c7, c8, c9⟩ := e
  unfold pwB
  rw [c1, c2, c3, c4]
theorem tc_kx {S X : St} (e : KX X = KX S) : tcS X = tcS S := by
  simp only [KX, Prod.mk.injEq] at e
  exact e.2.2.2.2.1
theorem rv_kx (S : St) (k : Nat) : ∀ o, KX (rvS S k o) = KX S
  | 0 => rfl
  | o + 1 => by
    rw [rvS]
    split
    · exact rv_kx S k o
    · rw [put_kx]; exact rv_kx S k o
theorem rv_o (S : St) (k : Nat) {i : Nat} (hi : i ≠ (ipS S).2) : ∀ o, pwS (rvS S k o) i = pwS S i ∧ psS (rvS S k o) i = psS S i
  | 0 => ⟨rfl, rfl⟩
  | o + 1 => by
    rw [rvS]
    split
    · exact rv_o S k hi o
    · have := put_o (rvS S k o) (i := (ipS (rvS S k o)).2) (i' := i) (pcode k o) (pwB (rvS S k o) k o) (by rw [rv_ip]; exact hi)
      rw [this.1, this.2]
      exact rv_o S k hi o
theorem rv_sz {S : St} {k : Nat} (hk : k < 512) (h : psS S (ipS S).2 = nI (ctB (wbt (pwS S (ipS S).2)) 262144)) : ∀ o, o ≤ 512 → psS (rvS S k o) (ipS S).2 = nI (ctB (wbt (pwS (rvS S k o) (ipS S).2)) 262144)
  | 0, _ => h
  | o + 1, ho => by
    rw [rvS, rv_ip]
    split
    · exact rv_sz hk h o (by omega)
    · exact put_sz (pcode_lt hk (by omega)) (rv_sz hk h o (by omega))
def skp (S : St) (k o : Nat) : Bool := decide (o = k) || (decide (o < k) && tcS S o)
theorem skp_k (S : St) (k : Nat) : skp S k k = true := by unfold skp; simp
theorem rv_b (S : St) {k : Nat} (hk : k < 512) (r : Nat) : ∀ o, o ≤ 512 → ((∀ o', o' < o → skp S k o' = false → r ≠ pcode k o') → wbt (pwS (rvS S k o) (ipS S).2) r = wbt (pwS S (ipS S).2) r) ∧ (∀ o', o' < o → skp S k o' = false → r = pcode k o' → wbt (pwS (rvS S k o) (ipS S).2) r = pwB S k o')
  | 0, _ => ⟨fun _ => rfl, fun o' h => absurd h (Nat.not_lt_zero _)⟩
  | o + 1, ho => by
    obtain ⟨i1, i2⟩ := rv_b S hk r o (by omega)
    have e : (decide (o = k) || (decide (o < k) && tcS (rvS S k o) o)) = skp S k o := by rw [tc_kx (rv_kx S k o)]; rfl
    rw [rvS, rv_ip, e]
    have hne : ∀ o', skp S k o' = false → o' ≠ k := fun o' h z => by rw [z, skp_k] at h; cases h
    by_cases q : skp S k o = true
    · rw [if_pos q]
      refine ⟨fun h => i1 (fun o' h' => h o' (by omega)), fun o' h1 h2 h3 => ?_⟩
      have : o' ≠ o := fun z => by rw [z, q] at h2; cases h2
      exact i2 o' (by omega) h2 h3
    · have q : skp S k o = false := by simpa using q
      rw [if_neg (by rw [q]; decide), put_b, pw_kx (rv_kx S k o)]
      refine ⟨fun h => ?_, fun o' h1 h2 h3 => ?_⟩
      · rw [if_neg (h o (by omega) q)]
        exact i1 (fun o' h' => h o' (by omega))
      · by_cases z : o' = o
        · subst z; rw [if_pos h3]
        · rw [if_neg (by rw [h3]; exact pcode_ne hk (by omega) (by omega) (hne _ h2) (hne _ q) z)]
          exact i2 o' (by omega) h2 h3
theorem up_kx (S : St) : ∀ b, KX (upS S b) = KX S
  | 0 => rfl
  | b + 1 => by
    rw [upS]
    split
    · rw [rv_kx]; exact up_kx S b
    · exact up_kx S b
theorem up_o (S : St) {i : Nat} (hi : i ≠ (ipS S).2) : ∀ b, pwS (upS S b) i = pwS S i ∧ psS (upS S b) i = psS S i
  | 0 => ⟨va_up_ne _ _ hi, va_up_ne _ _ hi⟩
  | b + 1 => by
    rw [upS]
    split
    · have := rv_o (upS S b) b (i := i) (by rw [up_ip]; exact hi) 512
      rw [this.1, this.2]
      exact up_o S hi b
    · exact up_o S hi b
theorem up_0 (S : St) {r : Nat} (hr : r < 262144) : wbt (pwS (upS S 0) (ipS S).2) r = wbt (pwS S (ipS S).1) r := by
  show wbt (va_up (pwS S) (ipS S).2 (va_cpy (pwS S (ipS S).1) (pwS S (ipS S).2) 0 0 4096) (ipS S).2) r = _
  rw [va_up_self]
  unfold wbt
  rw [pk_cpy_in (by omega) (by omega), Nat.sub_zero, Nat.zero_add]
theorem up_sz {S : St} (h : psS S (ipS S).1 = nI (ctB (wbt (pwS S (ipS S).1)) 262144)) : ∀ b, b ≤ 512 → psS (upS S b) (ipS S).2 = nI (ctB (wbt (pwS (upS S b) (ipS S).2)) 262144)
  | 0, _ => by
    rw [ctB_eq (q := wbt (pwS S (ipS S).1)) (fun k hk => up_0 S hk), ← h]
    exact va_up_self _ _ _
  | b + 1, hb => by
    rw [upS]
    split
    · have := rv_sz (S := upS S b) (k := b) (by omega) (by rw [up_ip]; exact up_sz h b (by omega)) 512 (by omega)
      rw [up_ip] at this
      exact this
    · exact up_sz h b (by omega)
theorem up_b (S : St) {a c : Nat} (ha : a < 512) (hc : c < 512) : ∀ b, b ≤ 512 → (a < c → wbt (pwS (upS S b) (ipS S).2) (a * 512 + c) = if (tcS S a = true ∧ a < b) ∨ (tcS S c = true ∧ c < b) then pwB S a c else wbt (pwS S (ipS S).1) (a * 512 + c)) ∧ (¬ a < c → wbt (pwS (upS S b) (ipS S).2) (a * 512 + c) = wbt (pwS S (ipS S).1) (a * 512 + c))
  | 0, _ => ⟨fun _ => by rw [if_neg (by omega)]; exact up_0 S (by omega), fun _ => up_0 S (by omega)⟩
  | b + 1, hb => by
    obtain ⟨i1, i2⟩ := up_b S ha hc b (by omega)
    have et : tcS (upS S b) = tcS S := tc_kx (up_kx S b)
    rw [upS]
    by_cases q : tcS (upS S b) b = true
    · rw [if_pos q]
      have hr := rv_b (upS S b) (k := b) (by omega) (a * 512 + c) 512 (by omega)
      rw [up_ip] at hr
      have hs : ∀ o, skp (upS S b) b o = skp S b o := fun o => by unfold skp; rw [et]
      rw [et] at q
      refine ⟨fun hac => ?_, fun hac => ?_⟩
      · by_cases h1 : a = b
        · subst h1
          rw [if_pos (Or.inl ⟨q, by omega⟩), hr.2 c hc (by rw [hs]; unfold skp; simp; omega) (by unfold pcode; rw [if_pos hac]), pw_kx (up_kx S a)]
        · by_cases h2 : c = b
          · subst h2
            rw [if_pos (Or.inr ⟨q, by omega⟩)]
            by_cases h3 : tcS S a = true
            · rw [hr.1 (fun o' ho' hk' => ?_), i1 hac, if_pos (Or.inl ⟨h3, hac⟩)]
              intro z
              have : o' = a := by
                unfold pcode at z
                split at z <;> omega
              rw [this, hs] at hk'
              unfold skp at hk'
              rw [h3] at hk'
              simp at hk'
              omega
            · have h3 : tcS S a = false := by simpa using h3
              rw [hr.2 a ha (by rw [hs]; unfold skp; rw [h3]; simp; omega) (by unfold pcode; rw [if_neg (by omega)]), pw_kx (up_kx S c), pw_comm]
          · rw [hr.1 (fun o' ho' _ => by unfold pcode; split <;> omega), i1 hac]
            have e : ((tcS S a = true ∧ a < b + 1) ∨ (tcS S c = true ∧ c < b + 1)) ↔ ((tcS S a = true ∧ a < b) ∨ (tcS S c = true ∧ c < b)) := by
              constructor
              · rintro (⟨z, z2⟩ | ⟨z, z2⟩)
                · exact Or.inl ⟨z, by omega⟩
                · exact Or.inr ⟨z, by omega⟩
              · rintro (⟨z, z2⟩ | ⟨z, z2⟩)
                · exact Or.inl ⟨z, by omega⟩
                · exact Or.inr ⟨z, by omega⟩
            simp only [e]
      · rw [hr.1 (fun o' ho' hk' => ?_), i2 hac]
        have : o' ≠ b := fun z => by rw [z, skp_k] at hk'; cases hk'
        unfold pcode
        split <;> omega
    · rw [if_neg q]
      rw [et] at q
      refine ⟨fun hac => ?_, i2⟩
      rw [i1 hac]
      have e : ((tcS S a = true ∧ a < b + 1) ∨ (tcS S c = true ∧ c < b + 1)) ↔ ((tcS S a = true ∧ a < b) ∨ (tcS S c = true ∧ c < b)) := by
        constructor
        · rintro (⟨z, z2⟩ | ⟨z, z2⟩)
          · exact Or.inl ⟨z, by have : a ≠ b := fun y => q (y ▸ z); omega⟩
          · exact Or.inr ⟨z, by have : c ≠ b := fun y => q (y ▸ z); omega⟩
        · rintro (⟨z, z2⟩ | ⟨z, z2⟩)
          · exact Or.inl ⟨z, by omega⟩
          · exact Or.inr ⟨z, by omega⟩
      simp only [e]
theorem up_all {S : St} (h : RInv S) {a c : Nat} (ha : a < 512) (hc : c < 512) : wbt (pwS (upS S 512) (ipS S).2) (a * 512 + c) = (decide (a < c) && pwB S a c) := by
  obtain ⟨i1, i2⟩ := up_b S ha hc 512 (by omega)
  by_cases q : a < c
  · rw [i1 q, decide_eq_true q, Bool.true_and]
    split
    · rfl
    · rename_i z
      refine (h a c ha hc).1 q ?_ ?_
      · cases e : tcS S a
        · rfl
        · exact absurd (Or.inl ⟨e, ha⟩) z
      · cases e : tcS S c
        · rfl
        · exact absurd (Or.inr ⟨e, hc⟩) z
  · rw [i2 q, decide_eq_false q, Bool.false_and]
    exact (h a c ha hc).2 q
/-! the model's look -/
def KL (T : St) := (mFS T, mIS T 0, mIS T 1, mIS T 2, mIS T 4, mIS T 5, mIS T 6, mZS T, mnS T)
theorem zr_kl : ∀ n i T, KL (zrR n i T) = KL T
  | 0, _, _ => rfl
  | n + 1, i, T => by rw [zrR, zr_kl n]; rfl
theorem zr_b : ∀ n i T k, (i ≤ k ∧ k < i + n) ∨ mIS T 3 k = nI 0 → mIS (zrR n i T) 3 k = nI 0
  | 0, i, T, k, h => h.elim (fun z => by omega) id
  | n + 1, i, T, k, h => by
    rw [zrR]
    refine zr_b n (i + 1) (zrS T i) k ?_
    by_cases q : k = i
    · refine Or.inr ?_
      rw [q]
      exact va_up_self (mIS T 3) i (nI 0)
    · rcases h with h | h
      · exact Or.inl (by omega)
      · exact Or.inr ((va_up_ne (mIS T 3) (nI 0) q).trans h)
theorem ob_kl (T : St) (a b : Nat) : KL (obS T a b) = KL T := rfl
theorem lki_kl (a : Nat) : ∀ n b T, KL (lkI a n b T) = KL T
  | 0, _, _ => rfl
  | n + 1, b, T => by
    rw [lkI, lki_kl a n]
    split <;> rfl
theorem lko_kl : ∀ n a T, KL (lkO n a T) = KL T
  | 0, _, _ => rfl
  | n + 1, a, T => by rw [lkO, lko_kl n, lki_kl]
theorem lkB_kl {X T : St} (e : KL X = KL T) (a b : Nat) : lkB X a b = lkB T a b := by
  simp only [KL, Prod.mk.injEq] at e
  obtain ⟨c1, c2, c3, c4, c5, c6, c7, c8, c9⟩ := e
  unfold lkB thF
  rw [c1, c2, c3, c8]
theorem ob_b (T : St) {a b r : Nat} (hb : b < 512) : ibt (mIS (obS T a b) 3) r = (ibt (mIS T 3) r || decide (r = a * 512 + b)) := by
  have := ibt_set (mIS T 3) (j := a * 512 + b) (q := r)
  rw [show (a * 512 + b) / 32 = 16 * a + b / 32 by omega, show (a * 512 + b) % 32 = b % 32 by omega] at this
  exact this
theorem lki_b {a a' c : Nat} (hc : c < 512) : ∀ n b T, b + n ≤ 512 → ibt (mIS (lkI a n b T) 3) (a' * 512 + c) = (ibt (mIS T 3) (a' * 512 + c) || (decide (a' = a ∧ b ≤ c ∧ c < b + n) && lkB T a c))
  | 0, b, T, _ => by
    rw [lkI, decide_eq_false (by omega)]
    simp
  | n + 1, b, T, hb => by
    rw [lkI, lki_b hc n (b + 1) _ (by omega)]
    have ek : KL (if lkB T a b = true then obS T a b else T) = KL T := by split <;> rfl
    rw [lkB_kl ek]
    have e : ibt (mIS (if lkB T a b = true then obS T a b else T) 3) (a' * 512 + c) = (ibt (mIS T 3) (a' * 512 + c) || (decide (a' = a ∧ c = b) && lkB T a b)) := by
      split
      · rename_i z
        rw [ob_b T (by omega), z, Bool.and_true]
        congr 1
        exact decide_eq_decide.mpr ⟨fun y => by omega, fun y => by omega⟩
      · rename_i z
        have z : lkB T a b = false := by simpa using z
        rw [z]
        simp
    rw [e, Bool.or_assoc]
    congr 1
    by_cases q : a' = a ∧ c = b
    · obtain ⟨rfl, rfl⟩ := q
      rw [decide_eq_true (show a' = a' ∧ c = c from ⟨rfl, rfl⟩), decide_eq_true (show a' = a' ∧ c ≤ c ∧ c < c + (n + 1) from ⟨rfl, by omega, by omega⟩), decide_eq_false (show ¬ (a' = a' ∧ c + 1 ≤ c ∧ c < c + 1 + n) by omega)]
      simp
    · rw [decide_eq_false q, Bool.false_and, Bool.false_or]
      congr 1
      exact decide_eq_decide.mpr ⟨fun y => by omega, fun y => by omega⟩
theorem lko_b {a' c : Nat} (hc : c < 512) : ∀ n a T, a + n ≤ 512 → ibt (mIS (lkO n a T) 3) (a' * 512 + c) = (ibt (mIS T 3) (a' * 512 + c) || (decide (a ≤ a' ∧ a' < a + n ∧ a' < c) && lkB T a' c))
  | 0, a, T, _ => by
    rw [lkO, decide_eq_false (by omega)]
    simp
  | n + 1, a, T, ha => by
    rw [lkO, lko_b hc n (a + 1) _ (by omega), lkB_kl (lki_kl a _ _ T), lki_b hc _ _ _ (by omega), Bool.or_assoc]
    congr 1
    by_cases q : a' = a
    · subst q
      rw [decide_eq_false (show ¬ (a' + 1 ≤ a' ∧ a' < a' + 1 + n ∧ a' < c) by omega), Bool.false_and, Bool.or_false]
      congr 1
      exact decide_eq_decide.mpr ⟨fun y => by omega, fun y => by omega⟩
    · rw [decide_eq_false (show ¬ (a' = a ∧ a + 1 ≤ c ∧ c < a + 1 + (511 - a)) by omega), Bool.false_and, Bool.false_or]
      congr 1
      exact decide_eq_decide.mpr ⟨fun y => by omega, fun y => by omega⟩
theorem lk_kl (T : St) : KL (lkS T) = KL T := by unfold lkS; rw [lko_kl, zr_kl]
theorem lk_b (T : St) {a c : Nat} (ha : a < 512) (hc : c < 512) : ibt (mIS (lkS T) 3) (a * 512 + c) = (decide (a < c) && lkB T a c) := by
  unfold lkS
  rw [lko_b hc 512 0 _ (by omega), lkB_kl (zr_kl _ _ T)]
  have e : ibt (mIS (zrR 8192 0 T) 3) (a * 512 + c) = false := by
    unfold ibt
    rw [zr_b 8192 0 T _ (Or.inl ⟨by omega, by omega⟩)]
    exact ib_zero _
  rw [e, Bool.false_or]
  congr 1
  exact decide_eq_decide.mpr ⟨fun y => by omega, fun y => by omega⟩
theorem lk_pw {S T : St} (h : RBod S T) {a c : Nat} (ha : a < 512) (hc : c < 512) : lkB T a c = pwB S a c := by
  obtain ⟨⟨a1, a2⟩, ⟨a3, a4⟩, ⟨a5, a6⟩, a7, a8⟩ := h a ha
  obtain ⟨⟨b1, b2⟩, ⟨b3, b4⟩, ⟨b5, b6⟩, b7, b8⟩ := h c hc
  unfold lkB thF pwB
  rw [← a1, ← b1, ← a3, ← a4, ← b3, ← b4, ← ov_M a8 b8 a6 b6, Bool.and_assoc (!(grS S a &&& mkS S c == 0))]
