/-! addRow -/
theorem rg_k {dx dy dz : UInt32} : ∀ n S, KS (rgS dx dy dz n S) = KS S ∧ KC (rgS dx dy dz n S) = KC S ∧ nfS (rgS dx dy dz n S) = nfS S
  | 0, _ => ⟨rfl, rfl, rfl⟩
  | n + 1, S => by
    rw [rgS]
    split
    · have := rg_k (dx := dx) (dy := dy) (dz := dz) n (mvS S 1 dx dy dz)
      exact this
    · exact ⟨rfl, rfl, rfl⟩
theorem gm_k {dx dy dz : UInt32} : ∀ n T ok, KM (grM dx dy dz n T ok).1 = KM T ∧ KB (grM dx dy dz n T ok).1 = KB T ∧ mFS (grM dx dy dz n T ok).1 0 = mFS T 0 ∧ mZS (grM dx dy dz n T ok).1 = mZS T
  | 0, _, _ => ⟨rfl, rfl, rfl, rfl⟩
  | n + 1, T, ok => by
    rw [grM]
    split
    · exact gm_k n (gnS T dx dy dz) _
    · exact ⟨rfl, rfl, rfl, rfl⟩
theorem rg_gm {dx dy dz : UInt32} : ∀ n S T, (∀ k, k < 6 → bxS S 1 k = mFS T 4 k) → rgB dx dy dz n S = (grM dx dy dz n T true).2
  | 0, _, _, _ => rfl
  | n + 1, S, T, e => by
    have eg : gdF (bxS (mvS S 1 dx dy dz) 1) = gnF (mFS T 4) dx dy dz := by rw [mv_b1]; exact gd_gn e
    rw [rgB, grM, if_pos rfl, eg]
    by_cases q : gnF (mFS T 4) dx dy dz = true
    · rw [if_pos q, q]
      exact rg_gm n _ _ (fun k hk => by rw [mv_b1]; exact mv_cong e k hk)
    · have q : gnF (mFS T 4) dx dy dz = false := by simpa using q
      rw [q, gm_f]
      rfl
theorem arE_v {S T : St} (h : Rel S T) (n : Int32) (dx dy dz : UInt32) : arE S n dx dy dz = if arB T n dx dy dz = true then none else some xA := by
  unfold arE arB padX movX
  rw [pad_v h.1, sl_eq]
  by_cases q1 : n < nI 1
  · rw [if_pos q1, decide_eq_true q1]; rfl
  · rw [if_neg q1, decide_eq_false q1]
    by_cases q2 : nI 512 < n
    · rw [if_pos q2, decide_eq_true q2]; rfl
    · rw [if_neg q2, decide_eq_false q2]
      cases bxF (bxS S 0) <;> cases mvB dx dy dz <;> rfl
theorem r_addRow {S T : St} (h : Rel S T) (n : Int32) (dx dy dz : UInt32) (g m : Int32) : mnS (arMS T n dx dy dz g m) 0 = cdX xA (arX S n dx dy dz) ∧ (arX S n dx dy dz = none → arMI T n dx dy dz g m = (abD (kN n) dx dy dz g m (arM S n dx dy dz)).2.1) ∧ Rel (enS (arX S n dx dy dz) (arSX S n dx dy dz) (abT (kN n) dx dy dz g m (arM S n dx dy dz))) (arMS T n dx dy dz g m) := by
  have ec : ctB (mZS T 0) 512 = ctB (thS S) 512 := ctB_eq (fun b hb => (h.2.1 b hb).1.1.symm)
  unfold arX arSX
  rw [arE_v h]
  by_cases q : arB T n dx dy dz = true
  · obtain ⟨⟨N, hN1, hN5, rfl⟩, hsl⟩ := arB_nat q
    have hm : mvB dx dy dz = true := by rw [← sl_eq]; exact hsl
    have hK := arK_n (S := T) hN5
    rw [ec] at hK
    rw [if_pos q, if_pos rfl]
    unfold arMS arMI arT arM
    rw [q, hK, kN_nI (show N < 65536 by omega)]
    -- the states behind the trial of the row
    have hcp : ∀ i, i < 6 → bxS (cpF6 S 1 0) 1 i = mFS (tkS T) 4 i := fun i hi => by
      unfold cpF6
      rw [bx_s, cp_lt hi]
      exact tk_box h.1 i hi
    have e := rg_gm (dx := dx) (dy := dy) (dz := dz) (N - 1) (cpF6 S 1 0) (tkS T) hcp
    obtain ⟨k1, k2, k3⟩ := rg_k (dx := dx) (dy := dy) (dz := dz) (N - 1) (cpF6 S 1 0)
    have kb := fun j (hj : j ≠ 1) => rg_0 (dx := dx) (dy := dy) (dz := dz) (N - 1) (cpF6 S 1 0) hj
    obtain ⟨g1, g2, g3, g4⟩ := gm_k (dx := dx) (dy := dy) (dz := dz) (N - 1) (tkS T) true
    have hrow := fun (z : rgB dx dy dz (N - 1) (cpF6 S 1 0) = true) => row_ok (S := S) (dx := dx) (dy := dy) (dz := dz) (N := N) h.1.2 z
    obtain ⟨X, hX⟩ : ∃ z, z = rgS dx dy dz (N - 1) (cpF6 S 1 0) := ⟨_, rfl⟩
    obtain ⟨Y, hY⟩ : ∃ z, z = grM dx dy dz (N - 1) (tkS T) true := ⟨_, rfl⟩
    rw [← hX] at k1 k2 k3 kb hrow ⊢
    rw [← hY] at g1 g2 g3 g4 e ⊢
    rw [e] at hrow ⊢
    have cb : ∀ j, j ≠ 1 → bxS X j = bxS S j := fun j hj => by rw [kb j hj]; unfold cpF6; rw [bx_ne _ _ hj]
    have hR : Rel X Y.1 := h.tr (k1.trans rfl) (by rw [k3]; rfl) (k2.trans rfl) (cb 0 (by decide)) (fun j hj k _ => by rw [cb j (by omega)]) (g3.trans rfl) (g1.trans rfl) (g2.trans rfl)
    have hct : thS X = thS S := by simp only [KC, Prod.mk.injEq] at k2; exact k2.2.2.1
    by_cases q2 : Y.2 = true
    · rw [q2, if_pos rfl, room_v hR.2.2.1 hN5, hct]
      by_cases q3 : ctB (thS S) 512 + N ≤ 512
      · rw [if_pos q3, decide_eq_true q3, if_pos (show (true && true) = true from rfl), if_pos (show (true && true) = true from rfl)]
        obtain ⟨s1, s2, s3⟩ := add_sim (dx := dx) (dy := dy) (dz := dz) (g := g) (m := m) hR (N := N) (by rw [hct]; exact q3) (fun t ht i hi => by
          have := hrow q2 t ht i hi
          rw [rw_cong (g := bxS X 0) (fun k hk => by unfold cpF6; rw [bx_s, cp_lt hk]) t i hi] at this
          exact this)
        exact ⟨s3, fun _ => s1.symm, s2⟩
      · rw [if_neg q3, decide_eq_false q3]
        exact ⟨rfl, fun z => (by cases z), hR.gs _ _⟩
    · have q2 : Y.2 = false := by simpa using q2
      rw [q2]
      exact ⟨rfl, fun z => (by cases z), hR.gs _ _⟩
  · have q : arB T n dx dy dz = false := by simpa using q
    have e1 : arT T n dx dy dz = (tkS T, false) := by unfold arT; rw [q, gm_f]
    unfold arMS arMI
    rw [q, e1]
    refine ⟨rfl, fun z => (by cases z), ?_⟩
    have h' : Rel S (tkS T) := h.trT rfl rfl rfl
    exact h'.gs _ _
