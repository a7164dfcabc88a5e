/-! add, addRow -/
theorem ap_t {A : St} {b : Nat} {g m : Int32} : ∀ i, i < 6 → bxS (apS A b 1 g m) (2 * b + 2) i = bxS A 1 i := by
  intro i hi
  unfold apS flS wdS cpF6
  show bxS (boxU _ _ _) (2 * b + 2) i = _
  rw [bx_ne _ _ (by omega), bx_ne _ _ (by omega), bx_s, cp_lt hi]
  rfl
theorem ap_w {A : St} {b : Nat} {g m : Int32} : ∀ i, i < 6 → bxS (apS A b 1 g m) (2 * b + 3) i = wV (bxS A 1) FP.fconst0 FP.fconst0 FP.fconst0 i := by
  intro i hi
  unfold apS flS wdS
  show bxS (boxU _ _ _) (2 * b + 3) i = _
  rw [bx_s, wd_at _ _ _ _ i hi]
  refine wV_cong (fun q hq => ?_) i hi
  unfold cpF6
  rw [bx_s, cp_lt hq, bx_ne _ _ (by omega)]
  rfl
theorem bo_c (S : St) (j : Nat) (f : Nat → UInt32) : grS (boxU S j f) = grS S ∧ mkS (boxU S j f) = mkS S ∧ thS (boxU S j f) = thS S ∧ tcS (boxU S j f) = tcS S ∧ KS (boxU S j f) = KS S ∧ nfS (boxU S j f) = nfS S := ⟨rfl, rfl, rfl, rfl, rfl, rfl⟩
theorem fl_c (S : St) (k : Nat) (g m : Int32) : grS (flS S k g m) = va_up (grS S) k g ∧ mkS (flS S k g m) = va_up (mkS S) k m ∧ thS (flS S k g m) = thS S ∧ tcS (flS S k g m) = va_up (tcS S) k true ∧ KS (flS S k g m) = KS S ∧ nfS (flS S k g m) = nfS S := ⟨rfl, rfl, rfl, rfl, rfl, rfl⟩
theorem thU_c (S : St) (v : Nat → Bool) : grS (thU S v) = grS S ∧ mkS (thU S v) = mkS S ∧ thS (thU S v) = v ∧ tcS (thU S v) = tcS S ∧ KS (thU S v) = KS S ∧ nfS (thU S v) = nfS S := ⟨rfl, rfl, rfl, rfl, rfl, rfl⟩
theorem ap_c {A : St} {b : Nat} {g m : Int32} : grS (apS A b 1 g m) = va_up (grS A) b g ∧ mkS (apS A b 1 g m) = va_up (mkS A) b m ∧ thS (apS A b 1 g m) = va_up (thS A) b true ∧ tcS (apS A b 1 g m) = va_up (tcS A) b true ∧ KS (apS A b 1 g m) = KS A ∧ nfS (apS A b 1 g m) = nfS A := by
  unfold apS wdS cpF6
  obtain ⟨t1, t2, t3, t4, t5, t6⟩ := thU_c A (va_up (thS A) b true)
  obtain ⟨W, hW⟩ : ∃ z, z = thU A (va_up (thS A) b true) := ⟨_, rfl⟩
  rw [← hW] at t1 t2 t3 t4 t5 t6 ⊢
  obtain ⟨u1, u2, u3, u4, u5, u6⟩ := bo_c W (2 * b + 2) (va_cpy (bxS W 1) (bxS W (2 * b + 2)) 0 0 6)
  obtain ⟨V, hV⟩ : ∃ z, z = boxU W (2 * b + 2) (va_cpy (bxS W 1) (bxS W (2 * b + 2)) 0 0 6) := ⟨_, rfl⟩
  rw [← hV] at u1 u2 u3 u4 u5 u6 ⊢
  obtain ⟨v1, v2, v3, v4, v5, v6⟩ := bo_c V (2 * b + 3) (va_cpy (bxS V 1) (bxS V (2 * b + 3)) 0 0 6)
  obtain ⟨U, hU⟩ : ∃ z, z = boxU V (2 * b + 3) (va_cpy (bxS V 1) (bxS V (2 * b + 3)) 0 0 6) := ⟨_, rfl⟩
  rw [← hU] at v1 v2 v3 v4 v5 v6 ⊢
  obtain ⟨w1, w2, w3, w4, w5, w6⟩ := bo_c U (2 * b + 3) (wdF (bxS U (2 * b + 3)) FP.fconst0 FP.fconst0 FP.fconst0)
  obtain ⟨Z, hZ⟩ : ∃ z, z = boxU U (2 * b + 3) (wdF (bxS U (2 * b + 3)) FP.fconst0 FP.fconst0 FP.fconst0) := ⟨_, rfl⟩
  rw [← hZ] at w1 w2 w3 w4 w5 w6 ⊢
  obtain ⟨f1, f2, f3, f4, f5, f6⟩ := fl_c Z b g m
  rw [f1, f2, f3, f4, f5, f6, w1, w2, w3, w4, w5, w6, v1, v2, v3, v4, v5, v6, u1, u2, u3, u4, u5, u6, t1, t2, t3, t4, t5, t6]
  exact ⟨rfl, rfl, rfl, rfl, rfl, rfl⟩
theorem puT_z (T : St) (b : Nat) (g m : Int32) : mZS (puT T b g m) 0 = va_up (mZS T 0) b true ∧ mZS (puT T b g m) 1 = mZS T 1 ∧ mFS (puT T b g m) = mFS T ∧ mIS (puT T b g m) 0 = va_up (mIS T 0) b g ∧ mIS (puT T b g m) 1 = va_up (mIS T 1) b m ∧ KM (puT T b g m) = KM T ∧ mnS (puT T b g m) = mnS T := ⟨rfl, rfl, rfl, rfl, rfl, rfl, rfl⟩
theorem pu_all (T : St) (b : Nat) (g m : Int32) : mZS (puS T b g m) 0 = va_up (mZS T 0) b true ∧ mZS (puS T b g m) 1 = va_up (mZS T 1) b true ∧ mIS (puS T b g m) 0 = va_up (mIS T 0) b g ∧ mIS (puS T b g m) 1 = va_up (mIS T 1) b m ∧ mFS (puS T b g m) 1 = cpR (mFS T 1) (mFS T 4) b ∧ mFS (puS T b g m) 2 = wn3 (mFS T 2) (mFS T 4) b FP.fconst0 FP.fconst0 FP.fconst0 ∧ KM (puS T b g m) = KM T ∧ mFS (puS T b g m) 0 = mFS T 0 ∧ mnS (puS T b g m) = mnS T := by
  obtain ⟨a1, a2, a3, a4, a5, a6, a7⟩ := puT_z T b g m
  unfold puS
  rw [se_z0, se_z1, se_I, se_1, tg_1, se_2, se_km, se_0, se_n9, a1, a2, a3, a4, a5, a6, a7]
  exact ⟨rfl, rfl, rfl, rfl, rfl, rfl, rfl, rfl, rfl⟩
theorem ap_step {A B : St} (hB : RBod A B) {b : Nat} (hb : b < 512) (hG : Gb (bxS A 1)) (eb : ∀ i, i < 6 → bxS A 1 i = mFS B 4 i) (g m : Int32) : Sbd A B (apS A b 1 g m) (puS B b g m) := by
  obtain ⟨p1, p2, p3, p4, p5, p6, p7, p8, -⟩ := pu_all B b g m
  obtain ⟨c1, c2, c3, c4, c5, -⟩ := ap_c (A := A) (b := b) (g := g) (m := m)
  have hT := ap_t (A := A) (b := b) (g := g) (m := m)
  have hW := ap_w (A := A) (b := b) (g := g) (m := m)
  have ho := fun j (h2 : j ≠ 2 * b + 2) (h3 : j ≠ 2 * b + 3) => ap_bx (S := A) (b := b) (a := 1) (g9 := g) (m9 := m) h2 h3
  obtain ⟨X, hX⟩ : ∃ z, z = apS A b 1 g m := ⟨_, rfl⟩
  obtain ⟨Y, hY⟩ : ∃ z, z = puS B b g m := ⟨_, rfl⟩
  rw [← hY] at p1 p2 p3 p4 p5 p6 p7 p8
  rw [← hX] at c1 c2 c3 c4 c5 hT hW ho
  rw [← hX, ← hY]
  refine ⟨fun q hq => ?_, fun q hq z => ?_, c5, ho 0 (by omega) (by omega), p7, p8⟩
  · obtain ⟨⟨b1, b2⟩, ⟨b3, b4⟩, ⟨b5, b6⟩, b7, b8⟩ := hB q hq
    refine ⟨⟨?_, ?_⟩, ⟨?_, ?_⟩, ?_⟩
    · rw [c3, p1]; unfold va_up; rw [b1]
    · rw [c4, p2]; unfold va_up; rw [b2]
    · rw [c1, p3]; unfold va_up; rw [b3]
    · rw [c2, p4]; unfold va_up; rw [b4]
    · by_cases e : q = b
      · subst e
        refine ⟨⟨fun i hi => ?_, fun i hi => ?_⟩, fun i hi => ?_, fun i hi => ?_⟩
        · rw [hT i hi, p5, cp_row i hi]; exact eb i hi
        · rw [hW i hi, p6, wn3_in _ _ _ _ _ _ i hi]; exact wV_cong eb i hi
        · rw [hT i hi]; exact hG i hi
        · rw [hW i hi]; exact wV_wb hG mvB_0 i hi
      · have e2 := ho (2 * q + 2) (by omega) (by omega)
        have e3 := ho (2 * q + 3) (by omega) (by omega)
        refine ⟨⟨fun i hi => ?_, fun i hi => ?_⟩, by rw [e2]; exact b7, by rw [e3]; exact b8⟩
        · rw [e2, p5, cp_other (by omega)]; exact b5 i hi
        · rw [e3, p6, wn3_out _ _ _ _ _ (by omega)]; exact b6 i hi
  · rw [c4] at z
    by_cases e : q = b
    · subst e; rw [va_up_self] at z; cases z
    · rw [va_up_ne _ _ e] at z
      exact ⟨z, by rw [c3, va_up_ne _ _ e], by rw [c1, va_up_ne _ _ e], by rw [c2, va_up_ne _ _ e], fun i hi => by rw [ho (2 * q + 3) (by omega) (by omega)]⟩
theorem ls_is {t : Nat → Bool} {b : Nat} (hb : b < 512) (h : ∀ j, j < b → t j = true) (h2 : t b = false) : lsR t 512 0 = b := by
  obtain ⟨l1, l2, l3, l4⟩ := ls_spec t 512 0
  rcases Nat.lt_trichotomy (lsR t 512 0) b with z | z | z
  · have a1 := h _ z
    rw [l4 (by omega)] at a1
    cases a1
  · exact z
  · have a1 := l1 b (by omega) z
    rw [h2] at a1
    cases a1
theorem ctF_up {t : Nat → Bool} {b n : Nat} : ctF (va_up t b true) (b + 1) n = ctF t (b + 1) n := by
  unfold ctF
  exact ctB_eq (fun k _ => va_up_ne _ _ (by omega))
/-- the box that goes in next -/
def nxB (dx dy dz : UInt32) (ad : Nat) (A : St) : St := if ad = 0 then A else mvS A 1 dx dy dz
theorem nxB_wk {A B : St} (h : RBod A B) (dx dy dz : UInt32) (ad : Nat) : Sbd A B (nxB dx dy dz ad A) B ∧ thS (nxB dx dy dz ad A) = thS A ∧ nfS (nxB dx dy dz ad A) = nfS A := by
  unfold nxB
  split
  · exact ⟨Sbd.rf h, rfl, rfl⟩
  · refine ⟨Sbd.wk h rfl rfl ?_ (fun j hj k _ => ?_) rfl rfl rfl, rfl, rfl⟩
    · unfold mvS; rw [bx_ne _ _ (by decide)]
    · unfold mvS; rw [bx_ne _ _ (by omega)]
theorem gn_wk {A B : St} (h : RBod A B) (dx dy dz : UInt32) : Sbd A B A (gnS B dx dy dz) := Sbd.wk h rfl rfl rfl (fun _ _ _ _ => rfl) rfl rfl rfl
theorem ab_sim {N : Nat} {dx dy dz : UInt32} {g m : Int32} {P : Nat → UInt32} (hrow : ∀ t, t < N → Gb (rwF dx dy dz t P)) : ∀ n b A la ad B, b + n = 512 → ad ≤ N → N + ctF (thS A) b n ≤ ad + n → (∀ j, j < b → thS A j = true) → RBod A B → (∀ i, i < 6 → mFS B 4 i = rwF dx dy dz ad P i) → (∀ i, i < 6 → bxS (nxB dx dy dz ad A) 1 i = rwF dx dy dz ad P i) →
    (abR N dx dy dz g m n b A la ad).2.1 = (ptR dx dy dz g m (N - ad) B la).2 ∧ (abR N dx dy dz g m n b A la ad).2.2 = N ∧ Sbd A B (abR N dx dy dz g m n b A la ad).1 (ptR dx dy dz g m (N - ad) B la).1 ∧ nfS (abR N dx dy dz g m n b A la ad).1 = nfS A ∧ ctB (thS (abR N dx dy dz g m n b A la ad).1) 512 = ctB (thS A) 512 + (N - ad)
  | 0, b, A, la, ad, B, hb, hN, hf, hall, hB, _, _ => by
    have : ad = N := by omega
    subst this
    rw [Nat.sub_self]
    exact ⟨rfl, rfl, Sbd.rf hB, rfl, (Nat.add_zero _).symm⟩
  | n + 1, b, A, la, ad, B, hb, hN, hf, hall, hB, e1, e2 => by
    have hs := ctF_s (thS A) b n
    by_cases q : ad < N
    · rw [abR, if_pos q]
      by_cases ht : thS A b = true
      · rw [if_pos ht]
        rw [ht] at hs
        have hall' : ∀ j, j < b + 1 → thS A j = true := fun j hj => by
          by_cases z : j = b
          · rw [z]; exact ht
          · exact hall j (by omega)
        exact ab_sim hrow n (b + 1) A la ad B (by omega) hN (by simp at hs; omega) hall' hB e1 e2
      · have ht : thS A b = false := by simpa using ht
        rw [if_neg (by rw [ht]; decide)]
        rw [ht] at hs
        have hls : lsR (mZS B 0) 512 0 = b := ls_is (by omega) (fun j hj => by rw [← (hB j (by omega)).1.1]; exact hall j hj) (by rw [← (hB b (by omega)).1.1]; exact ht)
        obtain ⟨w1, w2, w3⟩ := nxB_wk hB dx dy dz ad
        have hG : Gb (bxS (nxB dx dy dz ad A) 1) := fun i hi => by rw [e2 i hi]; exact hrow ad q i hi
        have st := ap_step w1.1 (show b < 512 by omega) hG (fun i hi => (e2 i hi).trans (e1 i hi).symm) g m
        obtain ⟨c1, c2, c3, c4, c5, c6⟩ := ap_c (A := nxB dx dy dz ad A) (b := b) (g := g) (m := m)
        have hx1 : bxS (apS (nxB dx dy dz ad A) b 1 g m) 1 = bxS (nxB dx dy dz ad A) 1 := ap_bx (by omega) (by omega)
        have hpb := pu_b (S := B) (b := b) (g := g) (m := m) (dx := dx) (dy := dy) (dz := dz)
        have st2 := (w1.trans st).trans (gn_wk st.1 dx dy dz)
        rw [show N - ad = N - (ad + 1) + 1 by omega, pt_s hls]
        show (abR N dx dy dz g m n (b + 1) (apS (nxB dx dy dz ad A) b 1 g m) (nI b) (ad + 1)).2.1 = _ ∧ (abR N dx dy dz g m n (b + 1) (apS (nxB dx dy dz ad A) b 1 g m) (nI b) (ad + 1)).2.2 = N ∧ Sbd A B (abR N dx dy dz g m n (b + 1) (apS (nxB dx dy dz ad A) b 1 g m) (nI b) (ad + 1)).1 _ ∧ nfS (abR N dx dy dz g m n (b + 1) (apS (nxB dx dy dz ad A) b 1 g m) (nI b) (ad + 1)).1 = nfS A ∧ ctB (thS (abR N dx dy dz g m n (b + 1) (apS (nxB dx dy dz ad A) b 1 g m) (nI b) (ad + 1)).1) 512 = ctB (thS A) 512 + (N - (ad + 1) + 1)
        obtain ⟨X, hX⟩ : ∃ z, z = apS (nxB dx dy dz ad A) b 1 g m := ⟨_, rfl⟩
        obtain ⟨Y, hY⟩ : ∃ z, z = gnS (puS B b g m) dx dy dz := ⟨_, rfl⟩
        rw [← hX] at c3 c6 hx1 st2 ⊢
        rw [← hY] at hpb st2 ⊢
        rw [w2] at c3
        rw [w3] at c6
        obtain ⟨r1, r2, r3, r4, r5⟩ := ab_sim hrow n (b + 1) X (nI b) (ad + 1) Y (by omega) (by omega) (by rw [c3, ctF_up]; simp at hs; omega) (fun j hj => by
          rw [c3]
          by_cases z : j = b
          · rw [z, va_up_self]
          · rw [va_up_ne _ _ z]; exact hall j (by omega)) st2.1 (fun i hi => by rw [hpb, rwF]; exact mv_cong e1 i hi) (fun i hi => by
          unfold nxB
          rw [if_neg (by omega), mv_b1, hx1, rwF]; exact mv_cong e2 i hi)
        refine ⟨r1, r2, st2.trans r3, r4.trans c6, ?_⟩
        rw [r5, c3, ct_up ht, if_pos (by omega)]
        omega
    · rw [abR, if_neg q, show N - ad = 0 by omega]
      exact ⟨rfl, by show ad = N; omega, Sbd.rf hB, rfl, (Nat.add_zero _).symm⟩
theorem pt_mn {dx dy dz : UInt32} {g m : Int32} : ∀ n T r, mnS (ptR dx dy dz g m n T r).1 = mnS T
  | 0, _, _ => rfl
  | n + 1, T, r => by rw [ptR, pt_mn n, mn_gn, (pu_all _ _ _ _).2.2.2.2.2.2.2.2]
theorem ct_0 (p : Nat → Bool) (n : Nat) : ctF p 0 n = ctB p n := by
  unfold ctF
  exact ctB_eq (fun k _ => by rw [Nat.zero_add])
/-- N bodies are added: both sides -/
theorem add_sim {S T : St} (h : Rel S T) {N : Nat} {dx dy dz : UInt32} {g m : Int32} (hN : ctB (thS S) 512 + N ≤ 512) (hrow : ∀ t, t < N → Gb (rwF dx dy dz t (bxS S 0))) :
    (abD N dx dy dz g m S).2.1 = (ptR dx dy dz g m N (tkS (okS T)) (-1)).2 ∧ Rel (abT N dx dy dz g m S) (ptR dx dy dz g m N (tkS (okS T)) (-1)).1 ∧ mnS (ptR dx dy dz g m N (tkS (okS T)) (-1)).1 0 = nI 0 := by
  have h' : Rel S (tkS (okS T)) := h.trT rfl rfl rfl
  have wk : Sbd S (tkS (okS T)) (cpF6 S 1 0) (tkS (okS T)) := by
    refine Sbd.wk h'.2.1 rfl rfl ?_ (fun j hj k _ => ?_) rfl rfl rfl
    · unfold cpF6; rw [bx_ne _ _ (by decide)]
    · unfold cpF6; rw [bx_ne _ _ (by omega)]
  have hcp : ∀ i, i < 6 → bxS (cpF6 S 1 0) 1 i = bxS S 0 i := fun i hi => by unfold cpF6; rw [bx_s, cp_lt hi]
  obtain ⟨r1, r2, r3, r4, r5⟩ := ab_sim (N := N) (dx := dx) (dy := dy) (dz := dz) (g := g) (m := m) hrow 512 0 (cpF6 S 1 0) (-1) 0 (tkS (okS T)) (by omega) (by omega) (by rw [ct_0]; show N + ctB (thS S) 512 ≤ 0 + 512; omega) (fun j hj => absurd hj (Nat.not_lt_zero _)) wk.1 (fun i hi => (tk_box (T := okS T) (h.1.tr rfl rfl) i hi).symm) hcp
  rw [Nat.sub_zero] at r1 r3 r5
  have e : abD N dx dy dz g m S = abR N dx dy dz g m 512 0 (cpF6 S 1 0) (-1) 0 := rfl
  rw [← e] at r1 r2 r3 r4 r5
  have eT : abT N dx dy dz g m S = nfU (abD N dx dy dz g m S).1 (va_up (nfS (abD N dx dy dz g m S).1) 0 (nfS (abD N dx dy dz g m S).1 0 + nI (abD N dx dy dz g m S).2.2)) := rfl
  have hmn := pt_mn (dx := dx) (dy := dy) (dz := dz) (g := g) (m := m) N (tkS (okS T)) (-1)
  rw [eT, r2]
  obtain ⟨X, hX⟩ : ∃ z, z = (abD N dx dy dz g m S).1 := ⟨_, rfl⟩
  obtain ⟨Y, hY⟩ : ∃ z, z = (ptR dx dy dz g m N (tkS (okS T)) (-1)).1 := ⟨_, rfl⟩
  rw [← hX] at r3 r4 r5 ⊢
  rw [← hY] at r3 hmn ⊢
  refine ⟨r1, ?_, by rw [hmn]; rfl⟩
  have st := wk.trans r3
  refine h'.stp ⟨st.1, st.2.1, ?_, st.2.2.2.1, st.2.2.2.2.1, st.2.2.2.2.2⟩ ?_
  · rw [← st.2.2.1]; rfl
  · show va_up (nfS X) 0 (nfS X 0 + nI N) 0 = nI (ctB (thS X) 512)
    have h3 : nfS S 0 = nI (ctB (thS S) 512) := h.2.2.1
    rw [va_up_self, r4, r5]
    show nfS S 0 + nI N = nI (ctB (thS S) 512 + N)
    rw [h3, nI_add]
theorem room_v {S : St} (h : RCnt S) {N : Nat} (hN : N ≤ 512) : roomX S (nI N) = if ctB (thS S) 512 + N ≤ 512 then none else some xS := by
  have h3 : nfS S 0 = nI (ctB (thS S) 512) := h
  have hc := ctB_le (thS S) 512
  unfold roomX
  rw [h3, pk_sub hc]
  by_cases q : ctB (thS S) 512 + N ≤ 512
  · rw [if_pos q, if_neg (nI_nlt (by omega) (by omega))]
  · rw [if_neg q, if_pos (nI_lt (by omega) (by omega))]
theorem r_add {S T : St} (h : Rel S T) (g m : Int32) : mnS (adMS T g m) 0 = cdX xA (orX (padX S) (roomX S (nI 1))) ∧ (orX (padX S) (roomX S (nI 1)) = none → adMI T = (abD 1 FP.fconst0 FP.fconst0 FP.fconst0 g m S).2.1) ∧ Rel (enS (orX (padX S) (roomX S (nI 1))) S (abT 1 FP.fconst0 FP.fconst0 FP.fconst0 g m S)) (adMS T g m) := by
  have ec : ctB (mZS T 0) 512 = ctB (thS S) 512 := ctB_eq (fun b hb => (h.2.1 b hb).1.1.symm)
  unfold adMS adMI padX
  rw [pad_v h.1, ec, room_v h.2.2.1 (by decide)]
  by_cases q1 : bxF (bxS S 0) = true
  · by_cases q2 : ctB (thS S) 512 + 1 ≤ 512
    · have q3 : ctB (thS S) 512 < 512 := by omega
      rw [q1, if_pos q2, decide_eq_true q3, if_pos rfl, if_pos (show (true && true) = true from rfl), if_pos (show (true && true) = true from rfl)]
      obtain ⟨s1, s2, s3⟩ := add_sim (dx := FP.fconst0) (dy := FP.fconst0) (dz := FP.fconst0) (g := g) (m := m) h (N := 1) q2 (fun t ht => by rw [show t = 0 by omega]; exact h.1.2)
      have eP : ptR FP.fconst0 FP.fconst0 FP.fconst0 g m 1 (tkS (okS T)) (-1) = (gnS (puS (tkS (okS T)) (lsR (mZS T 0) 512 0) g m) FP.fconst0 FP.fconst0 FP.fconst0, nI (lsR (mZS T 0) 512 0)) := by
        have e0 : mZS (tkS (okS T)) 0 = mZS T 0 := rfl
        rw [ptR, ptR, e0]
      rw [eP] at s1 s2
      obtain ⟨b, hb⟩ : ∃ z, z = lsR (mZS T 0) 512 0 := ⟨_, rfl⟩
      rw [← hb] at s1 s2 ⊢
      obtain ⟨B, hB⟩ : ∃ z, z = tkS (okS T) := ⟨_, rfl⟩
      have hmn := (pu_all B b g m).2.2.2.2.2.2.2.2
      rw [← hB] at s1 s2 ⊢
      obtain ⟨Y, hY⟩ : ∃ z, z = puS B b g m := ⟨_, rfl⟩
      rw [← hY] at s1 s2 hmn ⊢
      refine ⟨?_, fun _ => s1.symm, ?_⟩
      · rw [hmn, hB]; rfl
      · show Rel (abT 1 FP.fconst0 FP.fconst0 FP.fconst0 g m S) Y
        exact s2.trT rfl rfl rfl
    · have q3 : ¬ ctB (thS S) 512 < 512 := by omega
      rw [q1, if_neg q2, decide_eq_false q3]
      exact ⟨rfl, fun z => (by cases z), h.gs _ _⟩
  · have q1 : bxF (bxS S 0) = false := by simpa using q1
    rw [q1]
    exact ⟨rfl, fun z => (by cases z), h.gs _ _⟩
