/-! overlapping, meeting -/
theorem v_nn {x : UInt32} (h : vf_n32 x) : nn x := by
  unfold vf_n32 at h
  rw [UInt32.le_iff_toNat_le, FP.Core.mask_toNat32] at h
  exact (FP.Core.ne_nan32 x).mpr h
theorem gt_key {a b : UInt32} (ha : nn a) (hb : nn b) : fGt a b = decide (FP.Core.fkey b < FP.Core.fkey a) := by
  unfold fGt
  rw [show FP.fcmp a b = _ from FP.Core.fcmp_key ha hb]
  by_cases q : FP.Core.fkey b < FP.Core.fkey a
  · rw [(FP.Core.compare_gt_iff _ _).mpr q, decide_eq_true q]; rfl
  · rw [decide_eq_false q]
    cases hc : compare (FP.Core.fkey a) (FP.Core.fkey b) with
    | gt => exact absurd ((FP.Core.compare_gt_iff _ _).mp hc) q
    | lt => rfl
    | eq => rfl
theorem lt_key {a b : UInt32} (ha : nn a) (hb : nn b) : fLt a b = decide (FP.Core.fkey a < FP.Core.fkey b) := by
  unfold fLt
  rw [show FP.fcmp a b = _ from FP.Core.fcmp_key ha hb]
  by_cases q : FP.Core.fkey a < FP.Core.fkey b
  · rw [(FP.Core.compare_lt_iff _ _).mpr q, decide_eq_true q]; rfl
  · rw [decide_eq_false q]
    cases hc : compare (FP.Core.fkey a) (FP.Core.fkey b) with
    | lt => exact absurd ((FP.Core.compare_lt_iff _ _).mp hc) q
    | gt => rfl
    | eq => rfl
theorem eq_key {a b : UInt32} (ha : nn a) (hb : nn b) : fEq a b = decide (FP.Core.fkey a = FP.Core.fkey b) := by
  unfold fEq
  rw [show FP.fcmp a b = _ from FP.Core.fcmp_key ha hb]
  by_cases q : FP.Core.fkey a = FP.Core.fkey b
  · rw [(FP.Core.compare_eq_iff _ _).mpr q, decide_eq_true q]; rfl
  · rw [decide_eq_false q]
    cases hc : compare (FP.Core.fkey a) (FP.Core.fkey b) with
    | eq => exact absurd ((FP.Core.compare_eq_iff _ _).mp hc) q
    | gt => rfl
    | lt => rfl
/-! FOUND while a search goes on -/
def FndC (S T : St) (c : Nat) : Prop := nfS S 2 = nI c ∧ mnS T 2 = nI c ∧ ∀ k, k < c → fbS S k = mIS T 6 k ∧ ffS S k = mFS T 3 k ∧ vf_n32 (ffS S k)
def KF (S : St) := (bxS S, grS S, mkS S, thS S, tcS S, psS S, pwS S, nfS S 0, nfS S 1, ipS S)
def KG (T : St) := (mFS T 0, mFS T 1, mFS T 2, mIS T 0, mIS T 1, mIS T 2, mIS T 4, mIS T 5, mZS T, mnS T 0, mnS T 1)
theorem fn_kf (S : St) (c b : Nat) (x : UInt32) : KF (fnS S c b x) = KF S := rfl
theorem fn_kg (T : St) (c b : Nat) (x : UInt32) : KG (fnM T c b x) = KG T := rfl
theorem fnS_f (S : St) (c b : Nat) (x : UInt32) : fbS (fnS S c b x) = va_up (fbS S) c (nI b) ∧ ffS (fnS S c b x) = va_up (ffS S) c x := ⟨rfl, rfl⟩
theorem fnM_g (T : St) (c b : Nat) (x : UInt32) : mIS (fnM T c b x) 6 = va_up (mIS T 6) c (nI b) ∧ mFS (fnM T c b x) 3 = va_up (mFS T 3) c x := ⟨rfl, rfl⟩
theorem fnd_step {S T : St} {c b : Nat} {x : UInt32} (h : FndC S T c) (hx : vf_n32 x) : FndC (fnS S c b x) (fnM T c b x) (c + 1) := by
  refine ⟨fn_c _ _ _ _, fnM_c _ _ _ _, fun k hk => ?_⟩
  rw [(fnS_f S c b x).1, (fnS_f S c b x).2, (fnM_g T c b x).1, (fnM_g T c b x).2]
  by_cases q : k = c
  · subst q
    rw [va_up_self, va_up_self, va_up_self, va_up_self]
    exact ⟨rfl, rfl, hx⟩
  · rw [va_up_ne _ _ q, va_up_ne _ _ q, va_up_ne _ _ q, va_up_ne _ _ q]
    exact h.2.2 k (by omega)
/-- what a search reads -/
def RSee (S T : St) : Prop := RPad S T ∧ RBod S T
theorem RSee.tr {S T S' T' : St} (h : RSee S T) (e : KF S' = KF S) (e2 : KG T' = KG T) : RSee S' T' := by
  simp only [KF, Prod.mk.injEq] at e
  simp only [KG, Prod.mk.injEq] at e2
  obtain ⟨c1, c2, c3, c4, c5, c6, c7, c8, c9, c10⟩ := e
  obtain ⟨m1, m2, m3, m4, m5, m6, m7, m8, m9, m10, m11⟩ := e2
  exact ⟨h.1.tr (by rw [c1]) m1, h.2.tr (by unfold KC; rw [c2, c3, c4, c5]) (fun j _ k _ => by rw [c1]) (by unfold KB; rw [m2, m3, m4, m5, m9])⟩
theorem Rel.fnd {S T S' T' : St} (h : Rel S T) (e : KF S' = KF S) (e2 : KG T' = KG T) {c : Nat} (hc : c ≤ 512) (hf : FndC S' T' c) : Rel S' T' := by
  have hs := RSee.tr (S := S) (T := T) ⟨h.1, h.2.1⟩ e e2
  simp only [KF, Prod.mk.injEq] at e
  simp only [KG, Prod.mk.injEq] at e2
  obtain ⟨c1, c2, c3, c4, c5, c6, c7, c8, c9, c10⟩ := e
  obtain ⟨m1, m2, m3, m4, m5, m6, m7, m8, m9, m10, m11⟩ := e2
  obtain ⟨h1, h2, h3, h4, h5, h6, h7⟩ := h
  refine ⟨hs.1, hs.2, ?_, ?_, ?_, ⟨c, hc, hf⟩, ?_⟩
  · unfold RCnt; rw [c4, c8]; exact h3
  · unfold RSets RSet; rw [c6, c7, c10, m6, m7, m8]; exact h4
  · unfold RInv pwB; rw [c1, c2, c3, c4, c5, c7, c10]; exact h5
  · unfold RUpd; rw [c9, m11]; exact h7
theorem ov_ol {S T : St} (h : RSee S T) (mask : Int32) {b : Nat} (hb : b < 512) : ovC S mask b = olB T mask b := by
  obtain ⟨⟨a1, a2⟩, ⟨a3, a4⟩, ⟨a5, a6⟩, a7, a8⟩ := h.2 b hb
  obtain ⟨p1, p2⟩ := h.1
  unfold ovC olB ovF
  rw [show 6 * b + 3 + 0 = 6 * b + 3 from rfl, show 6 * b + 3 + 1 = 6 * b + 4 from rfl, show 6 * b + 3 + 2 = 6 * b + 5 from rfl]
  rw [← a1, ← a3, ← a6 0 (by decide), ← a6 1 (by decide), ← a6 2 (by decide), ← a6 3 (by decide), ← a6 4 (by decide), ← a6 5 (by decide), ← p1 0 (by decide), ← p1 1 (by decide), ← p1 2 (by decide), ← p1 3 (by decide), ← p1 4 (by decide), ← p1 5 (by decide)]
  rw [fle_n (nn_w a8 (k := 0) (by decide)) (nn_g p2 (k := 3) (by decide)), fle_n (nn_w a8 (k := 1) (by decide)) (nn_g p2 (k := 4) (by decide)), fle_n (nn_w a8 (k := 2) (by decide)) (nn_g p2 (k := 5) (by decide))]
  rw [fle_n (nn_g p2 (k := 0) (by decide)) (nn_w a8 (k := 3) (by decide)), fle_n (nn_g p2 (k := 1) (by decide)) (nn_w a8 (k := 4) (by decide)), fle_n (nn_g p2 (k := 2) (by decide)) (nn_w a8 (k := 5) (by decide))]
  simp only [Bool.and_assoc]
theorem v_0 : vf_n32 FP.fconst0 := mg_0.v (by decide)
theorem of_sim (mask : Int32) : ∀ n b S T c, b + n = 512 → c ≤ b → RSee S T → FndC S T c → KF (ofR mask n b S c) = KF S ∧ KG (olR mask n b T c) = KG T ∧ ∃ c', c' ≤ 512 ∧ FndC (ofR mask n b S c) (olR mask n b T c) c'
  | 0, b, S, T, c, hb, hc, _, hf => ⟨rfl, rfl, c, by omega, hf⟩
  | n + 1, b, S, T, c, hb, hc, hs, hf => by
    rw [ofR, olR, ov_ol hs mask (show b < 512 by omega)]
    split
    · obtain ⟨r1, r2, r3⟩ := of_sim mask n (b + 1) (fnS S c b FP.fconst0) (fnM T c b FP.fconst0) (c + 1) (by omega) (by omega) (hs.tr (fn_kf _ _ _ _) (fn_kg _ _ _ _)) (fnd_step hf v_0)
      exact ⟨r1.trans (fn_kf _ _ _ _), r2.trans (fn_kg _ _ _ _), r3⟩
    · exact of_sim mask n (b + 1) S T c (by omega) (by omega) hs hf
theorem fz_kf (S : St) : KF (fzS S) = KF S := rfl
theorem fz_kg (T : St) : KG (fzM T) = KG T := rfl
theorem fz_f (S T : St) : FndC (fzS S) (fzM T) 0 := ⟨fz_c S, fzM_c T, fun _ h => absurd h (Nat.not_lt_zero _)⟩
theorem kg_0 {T T' : St} (e : KG T' = KG T) : mnS T' 0 = mnS T 0 := by
  simp only [KG, Prod.mk.injEq] at e
  exact e.2.2.2.2.2.2.2.2.2.1
theorem r_overlapping {S T : St} (h : Rel S T) (mask : Int32) : mnS (olMS T mask) 0 = cdX xA (padX S) ∧ (padX S = none → olMI T mask = nfS (ofR mask 512 0 (fzS S) 0) 2) ∧ Rel (enS (padX S) S (ofR mask 512 0 (fzS S) 0)) (olMS T mask) := by
  unfold olMS olMI padX
  rw [pad_v h.1, Bool.and_true]
  by_cases q : bxF (bxS S 0) = true
  · rw [if_pos q, if_pos q, if_pos q]
    have h' : Rel S (okS T) := h.trT rfl rfl rfl
    obtain ⟨r1, r2, c, hc, r3⟩ := of_sim mask 512 0 (fzS S) (fzM (okS T)) 0 (by omega) (by omega) (RSee.tr (S := S) (T := okS T) ⟨h'.1, h'.2.1⟩ (fz_kf S) (fz_kg _)) (fz_f _ _)
    refine ⟨?_, fun _ => ?_, ?_⟩
    · rw [kg_0 r2]; rfl
    · rw [r3.1, r3.2.1]
    · exact h'.fnd (r1.trans (fz_kf S)) (r2.trans (fz_kg _)) hc r3
  · rw [if_neg q, if_neg q, if_neg q]
    have q : bxF (bxS S 0) = false := by simpa using q
    rw [q]
    exact ⟨rfl, fun z => (by cases z), h.gs _ _⟩
/-! meeting -/
theorem eR_f (w g : Nat → UInt32) (b : Nat) : ∀ n i en lv, eR w g b n i en lv false = FP.fconst2
  | 0, i, en, lv => rfl
  | n + 1, i, en, lv => by
    rw [eR]
    split
    · rw [Bool.false_and]; exact eR_f w g b n _ _ _
    · exact eR_f w g b n _ _ _
theorem k0 : FP.Core.fkey FP.fconst0 = 0 := by decide +kernel
theorem k1 : FP.Core.fkey FP.fconst1 = 1065353216 := by decide +kernel
theorem nn0 : nn FP.fconst0 := v_nn v_0
theorem mg_1 : Mg 136 FP.fconst1 := by unfold Mg; decide
theorem nn1 : nn FP.fconst1 := mg_1.nn (by decide)
def ok01 (en : UInt32) : Prop := nn en ∧ 0 ≤ FP.Core.fkey en
def okL (lv : UInt32) : Prop := nn lv ∧ FP.Core.fkey lv ≤ 1065353216
theorem en_eR {f w g g' : Nat → UInt32} {b : Nat} (hf : Wb f) (hg : Gb g) (ef : ∀ k, k < 6 → f k = w (6 * b + k)) (eg : ∀ k, k < 6 → g k = g' k) : ∀ n i en lv, i + n ≤ 3 → ok01 en → okL lv → (enG f g n i en lv = eR w g' b n i en lv true ∧ ok01 (enG f g n i en lv) ∧ FP.Core.fkey (enG f g n i en lv) ≤ 1065353216) ∨ (enG f g n i en lv = 3212836864 ∧ eR w g' b n i en lv true = FP.fconst2)
  | 0, i, en, lv, _, h1, h2 => by
    rw [enG, eR, Bool.true_and, fle_n h1.1 h2.1]
    by_cases q : fGt en lv = true
    · rw [if_pos q, q]
      exact Or.inr ⟨rfl, rfl⟩
    · rw [if_neg q, if_pos (by simpa using q)]
      refine Or.inl ⟨rfl, h1, ?_⟩
      rw [gt_key h1.1 h2.1] at q
      have := h2.2
      simp at q
      omega
  | n + 1, i, en, lv, hn, h1, h2 => by
    have e3 : 6 * b + 3 + i = 6 * b + (3 + i) := by omega
    have ed : nD g' i = enD g i := by unfold nD enD; rw [eg _ (by omega), eg _ (by omega)]
    have ea : nA w g' b i = enA f g i := by unfold nA enA enD; rw [eg _ (by omega), eg _ (by omega), ef _ (by omega)]
    have eb : nB w g' b i = enB f g i := by unfold nB enB enD; rw [eg _ (by omega), eg _ (by omega), ef _ (by omega), e3]
    rw [enG, eR, ed, ea, eb]
    by_cases q : fEq (enD g i) FP.fconst0 = true
    · rw [if_pos q, if_pos q, ← eg i (by omega), ← ef i (by omega), e3, ← ef (3 + i) (by omega), fge_n (nn_g hg (by omega)) (nn_w hf (by omega)), fle_n (nn_g hg (by omega)) (nn_w hf (by omega))]
      by_cases q1 : fLt (g i) (f i) = true
      · rw [if_pos q1, q1]
        exact Or.inr ⟨rfl, eR_f _ _ _ _ _ _ _⟩
      · rw [if_neg q1]
        have q1 : fLt (g i) (f i) = false := by simpa using q1
        by_cases q2 : fGt (g i) (f (3 + i)) = true
        · rw [if_pos q2, q1, q2]
          exact Or.inr ⟨rfl, eR_f _ _ _ _ _ _ _⟩
        · rw [if_neg q2]
          have q2 : fGt (g i) (f (3 + i)) = false := by simpa using q2
          rw [q1, q2]
          exact en_eR hf hg ef eg n (i + 1) en lv (by omega) h1 h2
    · rw [if_neg q, if_neg q]
      have hv := (en_ok hf hg i (by omega)).2.2.2 (by simpa using q)
      have n1 := v_nn hv.1
      have n2 := v_nn hv.2
      refine en_eR hf hg ef eg n (i + 1) _ _ (by omega) ?_ ?_
      · have nf : nn (if fGt (enA f g i) (enB f g i) = true then enB f g i else enA f g i) := by split <;> assumption
        revert nf
        generalize (if fGt (enA f g i) (enB f g i) = true then enB f g i else enA f g i) = x
        intro nf
        split
        · rename_i z
          rw [gt_key nf h1.1] at z
          have := h1.2
          simp at z
          exact ⟨nf, by omega⟩
        · exact h1
      · have nf : nn (if fGt (enA f g i) (enB f g i) = true then enA f g i else enB f g i) := by split <;> assumption
        revert nf
        generalize (if fGt (enA f g i) (enB f g i) = true then enA f g i else enB f g i) = x
        intro nf
        split
        · rename_i z
          rw [lt_key nf h2.1] at z
          have := h2.2
          simp at z
          exact ⟨nf, by omega⟩
        · exact h2
theorem n_1 : fEq 3212836864 3212836864 = true := by decide +kernel
theorem n_2 : fLe FP.fconst2 FP.fconst1 = false := by decide +kernel
theorem nnm : nn 3212836864 := (show Mg 136 3212836864 by unfold Mg; decide).nn (by decide)
theorem km : FP.Core.fkey 3212836864 = -1065353216 := by decide +kernel
theorem me_mt {S T : St} (h : RSee S T) (mask : Int32) {b : Nat} (hb : b < 512) : (meC S mask b = fLe (mtX T mask b) FP.fconst1) ∧ (meC S mask b = true → enG (bxS S (2 * b + 3)) (bxS S 0) 3 0 FP.fconst0 FP.fconst1 = mtX T mask b ∧ vf_n32 (mtX T mask b)) := by
  obtain ⟨⟨a1, a2⟩, ⟨a3, a4⟩, ⟨a5, a6⟩, a7, a8⟩ := h.2 b hb
  obtain ⟨p1, p2⟩ := h.1
  unfold meC mtX
  rw [← a1, ← a3]
  by_cases q : (thS S b && !(grS S b &&& mask == 0)) = true
  · rw [if_pos q, ← Bool.and_assoc, q, Bool.true_and]
    unfold enM
    rcases en_eR (b := b) a8 p2 a6 p1 3 0 FP.fconst0 FP.fconst1 (by decide) ⟨nn0, by rw [k0]; decide⟩ ⟨nn1, by rw [k1]; decide⟩ with ⟨e1, e2, e3⟩ | ⟨e1, e2⟩
    · rw [← e1]
      have z1 : fEq (enG (bxS S (2 * b + 3)) (bxS S 0) 3 0 FP.fconst0 FP.fconst1) 3212836864 = false := by
        rw [eq_key e2.1 nnm, km]
        have := e2.2
        simp
        omega
      have z2 : fLe (enG (bxS S (2 * b + 3)) (bxS S 0) 3 0 FP.fconst0 FP.fconst1) FP.fconst1 = true := by
        rw [fle_n e2.1 nn1, gt_key e2.1 nn1, k1]
        simp
        omega
      rw [z1, z2]
      exact ⟨rfl, fun _ => ⟨rfl, nn_v e2.1⟩⟩
    · rw [e1, e2, n_1, n_2]
      exact ⟨rfl, fun z => (by cases z)⟩
  · rw [if_neg q, ← Bool.and_assoc]
    have q : (thS S b && !(grS S b &&& mask == 0)) = false := by simpa using q
    rw [q, Bool.false_and, n_2]
    exact ⟨rfl, fun z => (by cases z)⟩
theorem me_sim (mask : Int32) : ∀ n b S T c, b + n = 512 → c ≤ b → RSee S T → FndC S T c → KF (meR mask n b S c) = KF S ∧ KG (meM mask n b T c) = KG T ∧ ∃ c', c' ≤ 512 ∧ FndC (meR mask n b S c) (meM mask n b T c) c'
  | 0, b, S, T, c, hb, hc, _, hf => ⟨rfl, rfl, c, by omega, hf⟩
  | n + 1, b, S, T, c, hb, hc, hs, hf => by
    obtain ⟨g1, g2⟩ := me_mt hs mask (show b < 512 by omega)
    rw [meR, meM, g1]
    by_cases q : fLe (mtX T mask b) FP.fconst1 = true
    · rw [if_pos q, if_pos q]
      obtain ⟨g3, g4⟩ := g2 (g1.trans q)
      rw [g3]
      obtain ⟨r1, r2, r3⟩ := me_sim mask n (b + 1) (fnS S c b (mtX T mask b)) (fnM T c b (mtX T mask b)) (c + 1) (by omega) (by omega) (hs.tr (fn_kf _ _ _ _) (fn_kg _ _ _ _)) (fnd_step hf g4)
      exact ⟨r1.trans (fn_kf _ _ _ _), r2.trans (fn_kg _ _ _ _), r3⟩
    · rw [if_neg q, if_neg q]
      exact me_sim mask n (b + 1) S T c (by omega) (by omega) hs hf
theorem r_meeting {S T : St} (h : Rel S T) (mask : Int32) : mnS (meM mask 512 0 (fzM (nrMS T)) 0) 2 = nfS (meR mask 512 0 (fzS S) 0) 2 ∧ Rel (meR mask 512 0 (fzS S) 0) (meM mask 512 0 (fzM (nrMS T)) 0) := by
  have h' : Rel S (nrMS T) := h.trT rfl rfl rfl
  obtain ⟨r1, r2, c, hc, r3⟩ := me_sim mask 512 0 (fzS S) (fzM (nrMS T)) 0 (by omega) (by omega) (RSee.tr (S := S) (T := nrMS T) ⟨h'.1, h'.2.1⟩ (fz_kf S) (fz_kg _)) (fz_f _ _)
  exact ⟨by rw [r3.1, r3.2.1], h'.fnd (r1.trans (fz_kf S)) (r2.trans (fz_kg _)) hc r3⟩
theorem r_nN {S T : St} (h : Rel S T) {b : Nat} (hb : b < 512) : nN (mFS T 2) (mFS T 0) b := by
  obtain ⟨-, -, ⟨a5, a6⟩, a7, a8⟩ := h.2.1 b hb
  obtain ⟨p1, p2⟩ := h.1
  intro i hi
  have := en_ok a8 p2 i hi
  have e3 : 6 * b + 3 + i = 6 * b + (3 + i) := by omega
  unfold nA nB
  unfold enA enB enD at this
  rw [a6 i (by omega), a6 (3 + i) (by omega), p1 i (by omega), p1 (3 + i) (by omega)] at this
  rw [e3]
  exact this
