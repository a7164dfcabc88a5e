/-! move, shift -/
def wLo (x d : UInt32) : UInt32 := if fLt d FP.fconst0 = true then FP.fadd (FP.fsub x 1048576000) (FP.fmul d FP.fconst2) else FP.fsub x 1048576000
def wHi (x d : UInt32) : UInt32 := if fLt d FP.fconst0 = true then FP.fadd x 1048576000 else FP.fadd (FP.fadd x 1048576000) (FP.fmul d FP.fconst2)
def wV (f : Nat → UInt32) (dx dy dz : UInt32) : Nat → UInt32
  | 0 => wLo (f 0) dx
  | 1 => wLo (f 1) dy
  | 2 => wLo (f 2) dz
  | 3 => wHi (f 3) dx
  | 4 => wHi (f 4) dy
  | _ => wHi (f 5) dz
theorem wV_cong {f g : Nat → UInt32} {dx dy dz : UInt32} (e : ∀ k, k < 6 → f k = g k) : ∀ k, k < 6 → wV f dx dy dz k = wV g dx dy dz k := by
  refine six ?_ ?_ ?_ ?_ ?_ ?_
  · show wLo (f 0) dx = wLo (g 0) dx
    rw [e 0 (by decide)]
  · show wLo (f 1) dy = wLo (g 1) dy
    rw [e 1 (by decide)]
  · show wLo (f 2) dz = wLo (g 2) dz
    rw [e 2 (by decide)]
  · show wHi (f 3) dx = wHi (g 3) dx
    rw [e 3 (by decide)]
  · show wHi (f 4) dy = wHi (g 4) dy
    rw [e 4 (by decide)]
  · show wHi (f 5) dz = wHi (g 5) dz
    rw [e 5 (by decide)]
theorem wa_lo (f : Nat → UInt32) (a : Nat) (d : UInt32) : waF f a d a = wLo (f a) d := by
  unfold waF wLo
  split <;> rw [va_up_ne _ _ (by omega), va_up_self]
theorem wa_hi (f : Nat → UInt32) (a : Nat) (d : UInt32) : waF f a d (a + 3) = wHi (f (a + 3)) d := by
  unfold waF wHi
  split <;> rw [va_up_self]
theorem wd_at (f : Nat → UInt32) (dx dy dz : UInt32) : ∀ k, k < 6 → wdF f dx dy dz k = wV f dx dy dz k := by
  unfold wdF
  refine six ?_ ?_ ?_ ?_ ?_ ?_
  · rw [wa_a (by decide) (by decide), wa_a (by decide) (by decide)]; exact wa_lo f 0 dx
  · rw [wa_a (by decide) (by decide), wa_lo _ 1, wa_a (by decide) (by decide)]; rfl
  · rw [wa_lo _ 2, wa_a (by decide) (by decide), wa_a (by decide) (by decide)]; rfl
  · rw [wa_a (by decide) (by decide), wa_a (by decide) (by decide)]; exact wa_hi f 0 dx
  · rw [wa_a (by decide) (by decide), wa_hi _ 1, wa_a (by decide) (by decide)]; rfl
  · rw [wa_hi _ 2, wa_a (by decide) (by decide), wa_a (by decide) (by decide)]; rfl
theorem wn_lo (w f : Nat → UInt32) (b k : Nat) (d : UInt32) : wnF w f b k d (6 * b + k) = wLo (f k) d := by
  unfold wnF wLo
  split <;> rw [va_up_ne _ _ (by omega), va_up_self]
theorem wn_hi (w f : Nat → UInt32) (b k : Nat) (d : UInt32) : wnF w f b k d (6 * b + 3 + k) = wHi (f (k + 3)) d := by
  unfold wnF wHi
  split <;> rw [va_up_self]
theorem wn_o (w f : Nat → UInt32) {b k i : Nat} (d : UInt32) (h : i ≠ 6 * b + k) (h2 : i ≠ 6 * b + 3 + k) : wnF w f b k d i = w i := by
  unfold wnF
  split <;> rw [va_up_ne _ _ h2, va_up_ne _ _ h]
def wn3 (w f : Nat → UInt32) (b : Nat) (dx dy dz : UInt32) : Nat → UInt32 := wnF (wnF (wnF w f b 0 dx) f b 1 dy) f b 2 dz
theorem wn3_in (w f : Nat → UInt32) (b : Nat) (dx dy dz : UInt32) : ∀ k, k < 6 → wn3 w f b dx dy dz (6 * b + k) = wV f dx dy dz k := by
  unfold wn3
  refine six ?_ ?_ ?_ ?_ ?_ ?_
  · rw [wn_o _ _ _ (by omega) (by omega), wn_o _ _ _ (by omega) (by omega)]; exact wn_lo _ _ b 0 _
  · rw [wn_o _ _ _ (by omega) (by omega)]; exact wn_lo _ _ b 1 _
  · exact wn_lo _ _ b 2 _
  · rw [wn_o _ _ _ (by omega) (by omega), wn_o _ _ _ (by omega) (by omega)]; exact wn_hi _ _ b 0 _
  · rw [wn_o _ _ _ (by omega) (by omega)]; exact wn_hi _ _ b 1 _
  · exact wn_hi _ _ b 2 _
theorem wn3_out (w f : Nat → UInt32) {b i : Nat} (dx dy dz : UInt32) (h : i < 6 * b ∨ 6 * b + 6 ≤ i) : wn3 w f b dx dy dz i = w i := by
  unfold wn3
  rw [wn_o _ _ _ (by omega) (by omega), wn_o _ _ _ (by omega) (by omega), wn_o _ _ _ (by omega) (by omega)]
theorem se_2 (T : St) (b : Nat) (dx dy dz : UInt32) : mFS (seS T b dx dy dz) 2 = wn3 (mFS T 2) (mFS T 4) b dx dy dz := rfl
theorem se_z1 (T : St) (b : Nat) (dx dy dz : UInt32) : mZS (seS T b dx dy dz) 1 = va_up (mZS T 1) b true := rfl
theorem se_I (T : St) (b : Nat) (dx dy dz : UInt32) : mIS (seS T b dx dy dz) = mIS T := rfl
theorem se_n9 (T : St) (b : Nat) (dx dy dz : UInt32) : mnS (seS T b dx dy dz) = mnS T := rfl
theorem tg_I (T : St) (b : Nat) : mIS (tgS T b) = mIS T := rfl
theorem tg_n9 (T : St) (b : Nat) : mnS (tgS T b) = mnS T := rfl
theorem tg_km (T : St) (b : Nat) : KM (tgS T b) = KM T := by
  unfold KM
  rw [tg_I, tg_n9, tg_j (by decide)]
theorem se_km (T : St) (b : Nat) (dx dy dz : UInt32) : KM (seS T b dx dy dz) = KM T := by
  unfold KM
  rw [se_I, se_n9, se_j (by decide), tg_j (by decide)]
theorem se_0 (T : St) (b : Nat) (dx dy dz : UInt32) : mFS (seS T b dx dy dz) 0 = mFS T 0 := by
  rw [se_j (by decide), tg_j (by decide)]
theorem wV_wb {f : Nat → UInt32} {dx dy dz : UInt32} (h : Gb f) (hm : mvB dx dy dz = true) : Wb (wV f dx dy dz) := by
  obtain ⟨m1, m2, m3⟩ := mvB_at hm
  intro k hk
  rw [← wd_at f dx dy dz k hk]
  exact wd_v h m1 m2 m3 k hk
/-- a step over bodies -/
def Sbd (S T S' T' : St) : Prop := RBod S' T' ∧ (∀ b, b < 512 → Unt S S' b) ∧ KS S' = KS S ∧ bxS S' 0 = bxS S 0 ∧ KM T' = KM T ∧ mFS T' 0 = mFS T 0
theorem Sbd.rf {S T : St} (h : RBod S T) : Sbd S T S T := ⟨h, fun b _ => Unt.rf S b, rfl, rfl, rfl, rfl⟩
theorem Sbd.trans {S T S' T' S2 T2 : St} (h : Sbd S T S' T') (h2 : Sbd S' T' S2 T2) : Sbd S T S2 T2 := ⟨h2.1, fun b hb => (h.2.1 b hb).trans (h2.2.1 b hb), h2.2.2.1.trans h.2.2.1, h2.2.2.2.1.trans h.2.2.2.1, h2.2.2.2.2.1.trans h.2.2.2.2.1, h2.2.2.2.2.2.trans h.2.2.2.2.2⟩
/-- only the work boxes change -/
theorem Sbd.wk {S T S' T' : St} (h : RBod S T) (ec : KC S' = KC S) (ek : KS S' = KS S) (e0 : bxS S' 0 = bxS S 0) (eb : ∀ j, 2 ≤ j → ∀ k, k < 6 → bxS S' j k = bxS S j k) (eB : KB T' = KB T) (eM : KM T' = KM T) (eP : mFS T' 0 = mFS T 0) : Sbd S T S' T' := ⟨h.tr ec eb eB, fun _ _ => Unt.kc ec eb, ek, e0, eM, eP⟩
theorem Rel.stp {S T S' T' : St} (h : Rel S T) (hs : Sbd S T S' T') (hc : RCnt S') : Rel S' T' := h.body hs.2.2.1 hs.2.2.2.1 hs.2.2.2.2.2 hs.2.2.2.2.1 hs.1 hs.2.1 hc
theorem mt_in {S : St} {k a : Nat} {dx dy dz : UInt32} (h : mtB S k a = true) : mtS S k a dx dy dz = cpF6 S (2 * k + 2) a := by unfold mtS; rw [if_pos h]
theorem mt_w {S : St} {k a : Nat} {dx dy dz : UInt32} (h : mtB S k a = false) (h2 : a ≠ 2 * k + 2) : ∀ i, i < 6 → bxS (mtS S k a dx dy dz) (2 * k + 3) i = wV (bxS S a) dx dy dz i := by
  intro i hi
  unfold mtS
  rw [if_neg (by rw [h]; decide)]
  show bxS (mtW S k a dx dy dz) (2 * k + 3) i = _
  unfold mtW wdS
  rw [bx_s, wd_at _ _ _ _ i hi]
  refine wV_cong (fun q hq => ?_) i hi
  unfold cpF6
  rw [bx_s, cp_lt hq, bx_ne _ _ h2]
theorem mt_k {S : St} {k a : Nat} {dx dy dz : UInt32} : KS (mtS S k a dx dy dz) = KS S ∧ grS (mtS S k a dx dy dz) = grS S ∧ mkS (mtS S k a dx dy dz) = mkS S ∧ thS (mtS S k a dx dy dz) = thS S ∧ nfS (mtS S k a dx dy dz) = nfS S := by
  unfold mtS
  split <;> exact ⟨rfl, rfl, rfl, rfl, rfl⟩
theorem mv_step {S T : St} (hB : RBod S T) {k a : Nat} (hk : k < 512) (ha : a < 2) (hG : Gb (bxS S a)) {dx dy dz : UInt32} (hm : mvB dx dy dz = true) (eb : ∀ i, i < 6 → bxS S a i = mFS T 4 i) :
    mtB S k a = moF (mFS T 4) (mFS T 2) k ∧ Sbd S T (mtS S k a dx dy dz) (moM T k dx dy dz) ∧ thS (mtS S k a dx dy dz) = thS S ∧ nfS (mtS S k a dx dy dz) = nfS S := by
  obtain ⟨⟨a1, a2⟩, ⟨a3, a4⟩, ⟨a5, a6⟩, a7, a8⟩ := hB k hk
  have eM : mtB S k a = moF (mFS T 4) (mFS T 2) k := by
    unfold mtB
    refine li_mo ?_ ?_ ?_ ?_
    · unfold cpF6; rw [bx_s]; exact cp_gb hG
    · unfold cpF6; rw [bx_ne _ _ (by omega)]; exact a8
    · intro i hi
      unfold cpF6
      rw [bx_s, cp_lt hi]; exact eb i hi
    · intro i hi
      unfold cpF6
      rw [bx_ne _ _ (by omega)]; exact a6 i hi
  obtain ⟨q1, q2, q3, q4, q5⟩ := mt_k (S := S) (k := k) (a := a) (dx := dx) (dy := dy) (dz := dz)
  refine ⟨eM, ?_, q4, q5⟩
  have et := mt_tight (S := S) (k := k) (a := a) (dx := dx) (dy := dy) (dz := dz)
  have eo := fun j (h2 : j ≠ 2 * k + 2) (h3 : j ≠ 2 * k + 3) => mt_bx (S := S) (k := k) (a := a) (dx := dx) (dy := dy) (dz := dz) h2 h3
  by_cases q : mtB S k a = true
  · have hM : moM T k dx dy dz = tgS T k := by unfold moM; rw [if_pos (by rw [← eM]; exact q)]
    have hw : bxS (mtS S k a dx dy dz) (2 * k + 3) = bxS S (2 * k + 3) := by rw [mt_in q]; unfold cpF6; rw [bx_ne _ _ (by omega)]
    have htc : tcS (mtS S k a dx dy dz) = tcS S := by rw [mt_in q]; rfl
    rw [hM]
    refine ⟨fun b hb => ?_, fun b hb z => ?_, q1, eo 0 (by omega) (by omega), tg_km _ _, tg_j (by decide)⟩
    · obtain ⟨⟨b1, b2⟩, ⟨b3, b4⟩, ⟨b5, b6⟩, b7, b8⟩ := hB b hb
      by_cases e : b = k
      · subst e
        refine ⟨⟨by rw [q4]; exact b1, by rw [htc]; exact b2⟩, ⟨by rw [q2]; exact b3, by rw [q3]; exact b4⟩, ⟨fun i hi => ?_, fun i hi => ?_⟩, ?_, ?_⟩
        · rw [et, cp_lt hi, tg_1, cp_row i hi]; exact eb i hi
        · rw [hw]; exact b6 i hi
        · rw [et]; exact cp_gb hG
        · rw [hw]; exact b8
      · have e2 := eo (2 * b + 2) (by omega) (by omega)
        have e3 := eo (2 * b + 3) (by omega) (by omega)
        refine ⟨⟨by rw [q4]; exact b1, by rw [htc]; exact b2⟩, ⟨by rw [q2]; exact b3, by rw [q3]; exact b4⟩, ⟨fun i hi => ?_, fun i hi => ?_⟩, by rw [e2]; exact b7, by rw [e3]; exact b8⟩
        · rw [e2, tg_1, cp_other (by omega)]; exact b5 i hi
        · rw [e3]; exact b6 i hi
    · rw [htc] at z
      refine ⟨z, by rw [q4], by rw [q2], by rw [q3], fun i hi => ?_⟩
      by_cases e : b = k
      · subst e; rw [hw]
      · rw [eo (2 * b + 3) (by omega) (by omega)]
  · have q : mtB S k a = false := by simpa using q
    have hM : moM T k dx dy dz = tgS (seS T k dx dy dz) k := by unfold moM; rw [if_neg (by rw [← eM, q]; decide)]
    have hw := mt_w (dx := dx) (dy := dy) (dz := dz) q (by omega)
    have htc : tcS (mtS S k a dx dy dz) = va_up (tcS S) k true := by unfold mtS; rw [if_neg (by rw [q]; decide)]; rfl
    have t1 : mFS (tgS (seS T k dx dy dz) k) 1 = cpR (cpR (mFS T 1) (mFS T 4) k) (mFS T 4) k := by rw [tg_1, se_1, se_4, tg_1]
    have t2 : mFS (tgS (seS T k dx dy dz) k) 2 = wn3 (mFS T 2) (mFS T 4) k dx dy dz := by rw [tg_j (by decide), se_2]
    have t3 : KM (tgS (seS T k dx dy dz) k) = KM T := by rw [tg_km, se_km]
    have t4 : mFS (tgS (seS T k dx dy dz) k) 0 = mFS T 0 := by rw [tg_j (by decide), se_0]
    have t5 : mIS (tgS (seS T k dx dy dz) k) = mIS T := by rw [tg_I, se_I]
    have t6 : mZS (tgS (seS T k dx dy dz) k) 0 = mZS T 0 := by rw [tg_z, se_z0]
    have t7 : mZS (tgS (seS T k dx dy dz) k) 1 = va_up (mZS T 1) k true := by rw [tg_z, se_z1]
    rw [hM]
    obtain ⟨Z, hZ⟩ : ∃ z, z = tgS (seS T k dx dy dz) k := ⟨_, rfl⟩
    rw [← hZ] at t1 t2 t3 t4 t5 t6 t7 ⊢
    refine ⟨fun b hb => ?_, fun b hb z => ?_, q1, eo 0 (by omega) (by omega), t3, t4⟩
    · obtain ⟨⟨b1, b2⟩, ⟨b3, b4⟩, ⟨b5, b6⟩, b7, b8⟩ := hB b hb
      have hz : tcS (mtS S k a dx dy dz) b = mZS Z 1 b := by
        rw [htc, t7]; unfold va_up; rw [b2]
      have hy : thS (mtS S k a dx dy dz) b = mZS Z 0 b := by
        rw [q4, t6]; exact b1
      have hg : grS (mtS S k a dx dy dz) b = mIS Z 0 b ∧ mkS (mtS S k a dx dy dz) b = mIS Z 1 b := by
        rw [q2, q3, t5]; exact ⟨b3, b4⟩
      by_cases e : b = k
      · subst e
        refine ⟨⟨hy, hz⟩, hg, ⟨fun i hi => ?_, fun i hi => ?_⟩, ?_, fun i hi => ?_⟩
        · rw [et, cp_lt hi, t1, cp_row i hi]; exact eb i hi
        · rw [hw i hi, t2, wn3_in _ _ _ _ _ _ i hi]; exact wV_cong eb i hi
        · rw [et]; exact cp_gb hG
        · rw [hw i hi]; exact wV_wb hG hm i hi
      · have e2 := eo (2 * b + 2) (by omega) (by omega)
        have e3 := eo (2 * b + 3) (by omega) (by omega)
        refine ⟨⟨hy, hz⟩, hg, ⟨fun i hi => ?_, fun i hi => ?_⟩, by rw [e2]; exact b7, by rw [e3]; exact b8⟩
        · rw [e2, t1, cp_other (by omega), cp_other (by omega)]; exact b5 i hi
        · rw [e3, t2, wn3_out _ _ _ _ _ (by omega)]; exact b6 i hi
    · rw [htc] at z
      by_cases e : b = k
      · subst e; rw [va_up_self] at z; cases z
      · rw [va_up_ne _ _ e] at z
        exact ⟨z, by rw [q4], by rw [q2], by rw [q3], fun i hi => by rw [eo (2 * b + 3) (by omega) (by omega)]⟩
theorem sl_eq (x y z : UInt32) : slF x y z = mvB x y z := by
  unfold slF mvB wiF
  rw [i2f_2, i2f_m2]
  cases fLe x 1132462080 <;> cases fGe x 3279945728 <;> cases fLe y 1132462080 <;> cases fGe y 3279945728 <;> cases fLe z 1132462080 <;> cases fGe z 3279945728 <;> rfl
theorem pad_v {S T : St} (h : RPad S T) : pbF (mFS T 0) = bxF (bxS S 0) := (bx_pb h.2 h.1).symm
theorem tk_k (T : St) : KB (tkS T) = KB T ∧ KM (tkS T) = KM T ∧ mFS (tkS T) 0 = mFS T 0 := ⟨rfl, rfl, rfl⟩
theorem tk_box {S T : St} (h : RPad S T) : ∀ i, i < 6 → bxS S 0 i = mFS (tkS T) 4 i := fun i hi => by
  show _ = tkF (mFS T 0) (mFS T 4) i
  rw [tk_at i hi]; exact h.1 i hi
theorem mn_tg (T : St) (b : Nat) : mnS (tgS T b) = mnS T := rfl
theorem mn_mo (T : St) (b : Nat) (dx dy dz : UInt32) : mnS (moM T b dx dy dz) = mnS T := by
  unfold moM
  split
  · exact mn_tg _ _
  · rw [mn_tg, se_n9]
theorem mn_gn (T : St) (dx dy dz : UInt32) : mnS (gnS T dx dy dz) = mnS T := rfl
theorem mn_bc (T : St) (b : Nat) : mnS (bcS T b) = mnS T := rfl
theorem mn_s1 (T : St) (b : Nat) (dx dy dz : UInt32) : mnS (s1M T b dx dy dz) = mnS T := by
  unfold s1M
  split
  · split
    · rw [mn_mo, mn_gn, mn_bc]
    · rw [mn_gn, mn_bc]
  · exact mn_bc _ _
theorem r_move {S T : St} (h : Rel S T) (k : Int32) (dx dy dz : UInt32) : mnS (mvMS T k dx dy dz) 0 = cdX xI (orX (thereX S k) (orX (padX S) (movX dx dy dz))) ∧ (orX (thereX S k) (orX (padX S) (movX dx dy dz)) = none → mvMB T k dx dy dz = !(mtB S (kN k) 0)) ∧ Rel (enS (orX (thereX S k) (orX (padX S) (movX dx dy dz))) S (mtS S (kN k) 0 dx dy dz)) (mvMS T k dx dy dz) := by
  unfold mvMS mvMB thereX padX movX
  rw [kw_kn h.2.1, pad_v h.1, sl_eq]
  by_cases q1 : knI S k = true
  · by_cases q2 : bxF (bxS S 0) = true
    · by_cases q3 : mvB dx dy dz = true
      · rw [q1, q2, q3]
        obtain ⟨j, hj, rfl, -⟩ := th_nat q1
        rw [kN_nI (show j < 65536 by omega)]
        have hB : RBod S (tkS (okS T)) := h.2.1.tr rfl (fun _ _ _ _ => rfl) rfl
        obtain ⟨m1, m2, m3, m4⟩ := mv_step hB hj (a := 0) (by decide) h.1.2 q3 (tk_box (T := okS T) (h.1.tr rfl rfl))
        refine ⟨?_, fun _ => ?_, ?_⟩
        · show mnS (moM (tkS (okS T)) j dx dy dz) 0 = nI 0
          rw [mn_mo]; rfl
        · rw [← m1]; rfl
        · show Rel (mtS S j 0 dx dy dz) (moM (tkS (okS T)) j dx dy dz)
          have h' : Rel S (tkS (okS T)) := h.trT rfl rfl rfl
          exact h'.stp m2 (by unfold RCnt; rw [m3, m4]; exact h.2.2.1)
      · have q3 : mvB dx dy dz = false := by simpa using q3
        rw [q1, q2, q3]
        exact ⟨rfl, fun z => (by cases z), h.gs _ _⟩
    · have q2 : bxF (bxS S 0) = false := by simpa using q2
      rw [q1, q2]
      exact ⟨rfl, fun z => (by cases z), h.gs _ _⟩
  · have q1 : knI S k = false := by simpa using q1
    rw [q1]
    exact ⟨rfl, fun z => (by cases z), h.gs _ _⟩
theorem gd_gn {f g : Nat → UInt32} {dx dy dz : UInt32} (e : ∀ k, k < 6 → f k = g k) : gdF (mvF f dx dy dz) = gnF g dx dy dz := by
  unfold gdF gnF
  rw [show mvF f dx dy dz 0 = FP.fadd (f 0) dx from rfl, show mvF f dx dy dz 1 = FP.fadd (f 1) dy from rfl, show mvF f dx dy dz 2 = FP.fadd (f 2) dz from rfl, show mvF f dx dy dz 3 = FP.fadd (f 3) dx from rfl, show mvF f dx dy dz 4 = FP.fadd (f 4) dy from rfl, show mvF f dx dy dz 5 = FP.fadd (f 5) dz from rfl]
  rw [go_wi, go_wi, go_wi, go_wi, go_wi, go_wi, ← e 0 (by decide), ← e 1 (by decide), ← e 2 (by decide), ← e 3 (by decide), ← e 4 (by decide), ← e 5 (by decide)]
  simp only [Bool.and_assoc]
theorem sb_bx {S : St} {i : Nat} {dx dy dz : UInt32} : bxS (sbV S i dx dy dz) 1 = mvF (va_cpy (bxS S (2 * i + 2)) (bxS S 1) 0 0 6) dx dy dz := by
  unfold sbV cpF6
  rw [mv_b1, bx_s]
theorem sb_o {S : St} {i j : Nat} {dx dy dz : UInt32} (h : j ≠ 1) : bxS (sbV S i dx dy dz) j = bxS S j := by
  unfold sbV mvS cpF6
  rw [bx_ne _ _ h, bx_ne _ _ h]
theorem sh_step {S T : St} (hB : RBod S T) {i : Nat} (hi : i < 512) {dx dy dz : UInt32} (hm : mvB dx dy dz = true) :
    (thS S i = true → sbB S i dx dy dz = s1B T i dx dy dz ∧ Sbd S T (sbS S i dx dy dz) (s1M T i dx dy dz) ∧ thS (sbS S i dx dy dz) = thS S ∧ nfS (sbS S i dx dy dz) = nfS S) ∧ (thS S i = false → s1B T i dx dy dz = false ∧ Sbd S T S (s1M T i dx dy dz)) := by
  have hz : mZS (bcS T i) 0 i = thS S i := (hB i hi).1.1.symm
  obtain ⟨-, -, ⟨a5, a6⟩, a7, a8⟩ := hB i hi
  have eb : ∀ k, k < 6 → va_cpy (bxS S (2 * i + 2)) (bxS S 1) 0 0 6 k = mFS (bcS T i) 4 k := fun k hk => by
    rw [cp_lt hk]
    show _ = bcF6 (mFS T 1) (mFS T 4) i k
    rw [bc_at k hk]; exact a5 k hk
  have eg : gdF (bxS (sbV S i dx dy dz) 1) = gnF (mFS (bcS T i) 4) dx dy dz := by rw [sb_bx]; exact gd_gn eb
  have eM : ∀ k, k < 6 → bxS (sbV S i dx dy dz) 1 k = mFS (gnS (bcS T i) dx dy dz) 4 k := fun k hk => by
    rw [sb_bx]
    show _ = mvF (mFS (bcS T i) 4) dx dy dz k
    exact mv_cong eb k hk
  have hV : Sbd S T (sbV S i dx dy dz) (gnS (bcS T i) dx dy dz) := Sbd.wk hB rfl rfl (sb_o (by decide)) (fun j hj k _ => by rw [sb_o (by omega)]) rfl rfl rfl
  refine ⟨fun ht => ?_, fun ht => ?_⟩
  · unfold sbB sbS s1B s1M
    rw [hz, ht, if_pos rfl, ← eg]
    by_cases q : gdF (bxS (sbV S i dx dy dz) 1) = true
    · rw [if_pos q, if_pos q, q]
      obtain ⟨m1, m2, m3, m4⟩ := mv_step (S := sbV S i dx dy dz) hV.1 hi (a := 1) (by decide) (gd_at q) hm eM
      refine ⟨by rw [m1]; rfl, hV.trans m2, m3, m4⟩
    · have q : gdF (bxS (sbV S i dx dy dz) 1) = false := by simpa using q
      rw [q]
      exact ⟨rfl, hV, rfl, rfl⟩
  · unfold s1B s1M
    rw [hz, ht]
    exact ⟨rfl, Sbd.wk hB rfl rfl rfl (fun _ _ _ _ => rfl) rfl rfl rfl⟩
theorem sh_sim {dx dy dz : UInt32} (hm : mvB dx dy dz = true) : ∀ n i S T q, i + n ≤ 512 → RBod S T → (shR dx dy dz n i S q).2 = (shN dx dy dz n i T q).2 ∧ Sbd S T (shR dx dy dz n i S q).1 (shN dx dy dz n i T q).1 ∧ thS (shR dx dy dz n i S q).1 = thS S ∧ nfS (shR dx dy dz n i S q).1 = nfS S
  | 0, i, S, T, q, _, hB => ⟨rfl, Sbd.rf hB, rfl, rfl⟩
  | n + 1, i, S, T, q, hn, hB => by
    obtain ⟨g1, g2⟩ := sh_step hB (show i < 512 by omega) hm
    rw [shR, shN]
    by_cases ht : thS S i = true
    · rw [if_pos ht]
      obtain ⟨e1, e2, e3, e4⟩ := g1 ht
      rw [e1]
      obtain ⟨f1, f2, f3, f4⟩ := sh_sim hm n (i + 1) (sbS S i dx dy dz) (s1M T i dx dy dz) (if s1B T i dx dy dz = true then q + 1 else q) (by omega) e2.1
      exact ⟨f1, e2.trans f2, f3.trans e3, f4.trans e4⟩
    · rw [if_neg ht]
      obtain ⟨e1, e2⟩ := g2 (by simpa using ht)
      rw [e1]
      obtain ⟨f1, f2, f3, f4⟩ := sh_sim hm n (i + 1) S (s1M T i dx dy dz) q (by omega) e2.1
      exact ⟨f1, e2.trans f2, f3, f4⟩
theorem shE_sf (fr tt : Int32) (dx dy dz : UInt32) : shE fr tt dx dy dz = if sfB fr tt = true then movX dx dy dz else some xI := by
  by_cases q : sfB fr tt = true
  · rw [if_pos q]
    obtain ⟨a, b, h1, h2, rfl, rfl⟩ := sf_nat q
    unfold shE
    rw [if_pos (bn_nI (by omega)), if_pos (bn_nI h2), if_neg (nI_nlt h1 (by omega))]
  · rw [if_neg q]
    unfold shE
    split
    · rename_i h1
      split
      · rename_i h2
        rw [if_pos]
        obtain ⟨a, ha, rfl⟩ := bn_nat h1
        obtain ⟨b, hb, rfl⟩ := bn_nat h2
        rcases Nat.lt_or_ge b a with z | z
        · exact nI_lt z (by omega)
        · exfalso
          apply q
          unfold sfB
          simp [nI_pos (show a < 2 ^ 31 by omega), nI_lt (show b < 512 from hb) (by decide), nI_nlt z (show b < 2 ^ 31 by omega)]
      · rfl
    · rfl
theorem r_shift {S T : St} (h : Rel S T) (fr tt : Int32) (dx dy dz : UInt32) : mnS (shMS T fr tt dx dy dz) 0 = cdX xI (shE fr tt dx dy dz) ∧ (shE fr tt dx dy dz = none → shMI T fr tt dx dy dz = (shD S fr tt dx dy dz).2) ∧ Rel (enS (shE fr tt dx dy dz) S (shD S fr tt dx dy dz).1) (shMS T fr tt dx dy dz) := by
  have hmn : ∀ n i T q, mnS (shN dx dy dz n i T q).1 = mnS T := by
    intro n
    induction n with
    | zero => intro i T q; rfl
    | succ n ih =>
      intro i T q
      rw [shN, ih, mn_s1]
  rw [shE_sf]
  unfold shMS shMI shD movX
  rw [sl_eq]
  by_cases q1 : sfB fr tt = true
  · by_cases q3 : mvB dx dy dz = true
    · rw [q1, q3]
      obtain ⟨a, b, h1, h2, rfl, rfl⟩ := sf_nat q1
      rw [kN_nI (show a < 65536 by omega), kN_nI (show b < 65536 by omega)]
      have hB : RBod S (okS T) := h.2.1.tr rfl (fun _ _ _ _ => rfl) rfl
      obtain ⟨m1, m2, m3, m4⟩ := sh_sim q3 (b + 1 - a) a S (okS T) (nI 0) (by omega) hB
      refine ⟨?_, fun _ => m1.symm, ?_⟩
      · show mnS (shN dx dy dz (b + 1 - a) a (okS T) (nI 0)).1 0 = nI 0
        rw [hmn]; rfl
      · show Rel (shR dx dy dz (b + 1 - a) a S (nI 0)).1 (shN dx dy dz (b + 1 - a) a (okS T) (nI 0)).1
        have h' : Rel S (okS T) := h.trT rfl rfl rfl
        exact h'.stp m2 (by unfold RCnt; rw [m3, m4]; exact h.2.2.1)
    · have q3 : mvB dx dy dz = false := by simpa using q3
      rw [q1, q3]
      exact ⟨rfl, fun z => (by cases z), h.gs _ _⟩
  · have q1 : sfB fr tt = false := by simpa using q1
    rw [q1]
    exact ⟨rfl, fun z => (by cases z), h.gs _ _⟩
