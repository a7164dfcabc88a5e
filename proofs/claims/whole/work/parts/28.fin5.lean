/-! PairFinder: its public methods, the others -/
theorem n_nat {n : Int32} (h1 : ¬ n < nI 1) (h2 : ¬ nI 512 < n) : ∃ N, 1 ≤ N ∧ N ≤ 512 ∧ n = nI N := by
  have h0 : ¬ n < 0 := fun q => h1 (Int32.lt_trans q (by decide))
  obtain ⟨j, hj, rfl⟩ := nI_of h0
  refine ⟨j, ?_, ?_, rfl⟩
  · rcases Nat.lt_or_ge j 1 with q | q
    · exact absurd (nI_lt q (by decide)) h1
    · exact q
  · rcases Nat.lt_or_ge 512 j with q | q
    · exact absurd (nI_lt q hj) h2
    · exact q
theorem mv_cong {f g : Nat → UInt32} {dx dy dz : UInt32} (h : ∀ k, k < 6 → f k = g k) : ∀ k, k < 6 → mvF f dx dy dz k = mvF g dx dy dz k := by
  intro k hk
  have h0 := h 0 (by decide); have h1 := h 1 (by decide); have h2 := h 2 (by decide); have h3 := h 3 (by decide); have h4 := h 4 (by decide); have h5 := h 5 (by decide)
  match k, hk with
  | 0, _ => show FP.fadd (f 0) dx = FP.fadd (g 0) dx; rw [h0]
  | 1, _ => show FP.fadd (f 1) dy = FP.fadd (g 1) dy; rw [h1]
  | 2, _ => show FP.fadd (f 2) dz = FP.fadd (g 2) dz; rw [h2]
  | 3, _ => show FP.fadd (f 3) dx = FP.fadd (g 3) dx; rw [h3]
  | 4, _ => show FP.fadd (f 4) dy = FP.fadd (g 4) dy; rw [h4]
  | 5, _ => show FP.fadd (f 5) dz = FP.fadd (g 5) dz; rw [h5]
  | n + 6, q => omega
theorem rw_cong {f g : Nat → UInt32} {dx dy dz : UInt32} (h : ∀ k, k < 6 → f k = g k) : ∀ t k, k < 6 → rwF dx dy dz t f k = rwF dx dy dz t g k
  | 0 => h
  | t + 1 => mv_cong (rw_cong h t)
theorem rw_in {f : Nat → UInt32} {dx dy dz : UInt32} : ∀ t, rwF dx dy dz t (mvF f dx dy dz) = rwF dx dy dz (t + 1) f
  | 0 => rfl
  | t + 1 => by show mvF _ _ _ _ = mvF _ _ _ _; rw [rw_in t]
theorem rg_row {dx dy dz : UInt32} : ∀ (n : Nat) (S : St), Gb (bxS S 1) → rgB dx dy dz n S = true → ∀ t, t ≤ n → Gb (rwF dx dy dz t (bxS S 1))
  | 0, S, hG, _, t, ht => by rw [show t = 0 by omega]; exact hG
  | n + 1, S, hG, h, t, ht => by
    unfold rgB at h
    split at h
    · next q =>
      match t, ht with
      | 0, _ => exact hG
      | t + 1, ht =>
        have := rg_row n (mvS S 1 dx dy dz) (gd_at q) h t (by omega)
        rw [mv_b1, rw_in] at this
        exact this
    · cases h
theorem rg_0 {dx dy dz : UInt32} : ∀ (n : Nat) (S : St) {j : Nat}, j ≠ 1 → bxS (rgS dx dy dz n S) j = bxS S j
  | 0, S, j, _ => rfl
  | n + 1, S, j, h => by
    unfold rgS
    split
    · rw [rg_0 n _ h]; unfold mvS; exact bx_ne _ _ h
    · unfold mvS; exact bx_ne _ _ h
theorem cp_lt {f g : Nat → UInt32} {k : Nat} (h : k < 6) : va_cpy f g 0 0 6 k = f k := by rw [pk_cpy_in (by omega) (by omega)]; simp
theorem row_ok {S : St} {dx dy dz : UInt32} {N : Nat} (hp : Gb (bxS S 0)) (h : rgB dx dy dz (N - 1) (cpF6 S 1 0) = true) : ∀ t, t < N → Gb (rwF dx dy dz t (bxS (cpF6 (rgS dx dy dz (N - 1) (cpF6 S 1 0)) 1 0) 1)) := by
  intro t ht k hk
  have h1 := rg_row (N - 1) (cpF6 S 1 0) (by unfold cpF6; rw [bx_s]; exact cp_gb hp) h t (by omega) k hk
  rw [rw_cong (g := bxS (cpF6 S 1 0) 1) _ t k hk]
  · exact h1
  · intro q hq
    unfold cpF6
    rw [bx_s, bx_s, cp_lt hq, cp_lt hq, rg_0 _ _ (by decide), bx_ne _ _ (by decide)]
def arE (S : St) (n : Int32) (dx dy dz : UInt32) : Option String := if n < nI 1 then some xA else if nI 512 < n then some xA else orX (padX S) (movX dx dy dz)
def arM (S : St) (n : Int32) (dx dy dz : UInt32) : St := rgS dx dy dz (kN n - 1) (cpF6 S 1 0)
def arX (S : St) (n : Int32) (dx dy dz : UInt32) : Option String := orX (arE S n dx dy dz) (if rgB dx dy dz (kN n - 1) (cpF6 S 1 0) = true then roomX (arM S n dx dy dz) n else some xA)
def arSX (S : St) (n : Int32) (dx dy dz : UInt32) : St := if arE S n dx dy dz = none then arM S n dx dy dz else S
theorem arE_n {S : St} {N : Nat} {dx dy dz : UInt32} (h1 : 1 ≤ N) (h5 : N ≤ 512) (hp : padX S = none) (hm : movX dx dy dz = none) : arE S (nI N) dx dy dz = none := by
  unfold arE
  rw [if_neg (nI_nlt h1 (by omega)), if_neg (nI_nlt h5 (by decide)), hp]
  exact hm
theorem arE_p {S : St} {N : Nat} {dx dy dz : UInt32} {E : String} (h1 : 1 ≤ N) (h5 : N ≤ 512) (hp : padX S = some E) : arE S (nI N) dx dy dz = some E := by
  unfold arE
  rw [if_neg (nI_nlt h1 (by omega)), if_neg (nI_nlt h5 (by decide)), hp]
  rfl
theorem arE_m {S : St} {N : Nat} {dx dy dz : UInt32} {E : String} (h1 : 1 ≤ N) (h5 : N ≤ 512) (hp : padX S = none) (hm : movX dx dy dz = some E) : arE S (nI N) dx dy dz = some E := by
  unfold arE
  rw [if_neg (nI_nlt h1 (by omega)), if_neg (nI_nlt h5 (by decide)), hp]
  exact hm
set_option maxRecDepth 100000 in
set_option maxHeartbeats 1000000 in
theorem c_addRow (l : Launch) (G : Gm) (S : St) (hl0 : l.stackTraces = false) (hp : Gb (bxS S 0)) (n : Int32) (dx dy dz : UInt32) (g9 m9 : Int32) : Ti l yX3_addRow wsX3_addRow ({ frames := 7, cells := 3, slots := 18, locals := 133 } : Room) [.ref (g_ad G 0 0), .int n, .float dx, .float dy, .float dz, .int g9, .int m9] G S (arX S n dx dy dz) (arSX S n dx dy dz) ((abD (kN n) dx dy dz g9 m9 (arM S n dx dy dz)).2.1) (abT (kN n) dx dy dz g9 m9 (arM S n dx dy dz)) := by
  refine entX (cc := cX3_addRow) (maxL := 7) (ret := (some .int)) (by decide) rfl (Nat.le_of_ble_eq_true rfl) ?_
  intro p e s m below meth c ls C hw hT hS hte hl
  obtain ⟨hx, hb, hr, hml, hown, hts, hlk⟩ := C
  have hz1 := hw.2.2.2.2.1
  have hz2 := hw.2.2.2.2.2
  have hl : lv_has ls 7 [(0, .ref (g_ad G 0 0)), (1, .int n), (2, .float dx), (3, .float dy), (4, .float dz), (5, .int g9), (6, .int m9)] := hl
  refine lv_iload_n hx hb dX3_addRow_0 rfl (lv_at hl 1 rfl) ?_
  refine lv_iconst (v := nI 1) hx hb dX3_addRow_1 (by decide) ?_
  refine lv_icmp_lt (tgt := 12) hx hb dX3_addRow_2 (by decide) (fun h1 => ?_) (fun h1 => ?_)
  · skip
    exact thrA hx hb hl0 hown hts hlk hml hl.1 (by unfold arSX; rw [if_neg (by unfold arE; simp [h1])]; exact hw) hT hS hte (or_s (by unfold arE; simp [h1])) (List.mem_of_getElem? (i := 1) rfl) (List.mem_of_getElem? (i := 2) rfl) (fun _ h => List.mem_cons_of_mem _ (List.mem_append_left _ (List.mem_append_right _ h))) (List.mem_of_getElem? (i := 12) rfl) hS.1 dX3_addRow_12 dX3_addRow_15 dX3_addRow_16 dX3_addRow_18 dX3_addRow_21 (Nat.le_of_ble_eq_true rfl) (Nat.le_of_ble_eq_true rfl) (Nat.le_of_ble_eq_true rfl) (Nat.le_of_ble_eq_true rfl) (Nat.le_of_ble_eq_true rfl) (Nat.le_of_ble_eq_true rfl) hz1 hz2
  · skip
    refine lv_iload_n hx hb dX3_addRow_5 rfl (lv_at hl 1 rfl) ?_
    refine lv_sipush (v := nI 512) hx hb dX3_addRow_6 (by decide) ?_
    refine lv_icmp_le (tgt := 22) hx hb dX3_addRow_9 (by decide) (fun h2 => ?_) (fun h2 => ?_)
    · skip
      have h2 : ¬ (nI 512) < n := Int32.not_lt.mpr h2
      obtain ⟨N, hN1, hN5, rfl⟩ := n_nat h1 h2
      have kN9 : kN (nI N) = N := kN_nI (by omega)
      refine lv_aload_n hx hb dX3_addRow_22 rfl (lv_at hl 0 rfl) ?_
      refine xVv ⟨hx, hb, hml, hown, hts⟩ (c_requirePadIsBox l G S hl0) (cwV 0 hts gX3_addRow_X3_requirePadIsBox rfl rfl rfl (by decide +kernel) ⟨(Nat.le_of_ble_eq_true rfl), (Nat.le_of_ble_eq_true rfl)⟩) hw hT hS (rcv hw hT 0 0 (by decide) rfl rfl) (As := []) (rest := []) rfl hl.1 rfl (Nat.le_of_ble_eq_true rfl) dX3_addRow_23 ⟨(Nat.le_of_ble_eq_true rfl), (Nat.le_of_ble_eq_true rfl)⟩ (fun E ce q9 H locs h3 hw hS hce hcv hcl => ?_) (fun H locs h3 hw hS => ?_)
      · skip
        exact xo hte hlk (or_s (arE_p hN1 hN5 h3)) (by unfold arSX; rw [if_neg (by rw [arE_p hN1 hN5 h3]; intro q; cases q)]; exact hw) hS hce hcv hcl (Nat.le_of_ble_eq_true rfl) (Nat.le_of_ble_eq_true rfl)
      refine lv_fload_n hx hb dX3_addRow_26 rfl (lv_at hl 2 rfl) ?_
      refine lv_fload_n hx hb dX3_addRow_27 rfl (lv_at hl 3 rfl) ?_
      refine lv_fload hx hb dX3_addRow_28 (lv_at hl 4 rfl) ?_
      refine xSv ⟨hx, hb, hml, hown, hts⟩ (c_requireMovement l G S hl0 dx dy dz) (va_cwS 3 hts gX3_addRow_X3_requireMovement rfl rfl rfl (by decide +kernel) ⟨(Nat.le_of_ble_eq_true rfl), (Nat.le_of_ble_eq_true rfl)⟩) hw hT hS (As := [.float dx, .float dy, .float dz]) (rest := []) rfl hl.1 rfl (Nat.le_of_ble_eq_true rfl) dX3_addRow_30 ⟨(Nat.le_of_ble_eq_true rfl), (Nat.le_of_ble_eq_true rfl)⟩ (fun E ce q9 H locs h4 hw hS hce hcv hcl => ?_) (fun H locs h4 hw hS => ?_)
      · skip
        exact xo hte hlk (or_s (arE_m hN1 hN5 h3 h4)) (by unfold arSX; rw [if_neg (by rw [arE_m hN1 hN5 h3 h4]; intro q; cases q)]; exact hw) hS hce hcv hcl (Nat.le_of_ble_eq_true rfl) (Nat.le_of_ble_eq_true rfl)
      refine lv_aload_n hx hb dX3_addRow_33 rfl (lv_at hl 0 rfl) ?_
      refine lv_iload_n hx hb dX3_addRow_34 rfl (lv_at hl 1 rfl) ?_
      refine lv_fload_n hx hb dX3_addRow_35 rfl (lv_at hl 2 rfl) ?_
      refine lv_fload_n hx hb dX3_addRow_36 rfl (lv_at hl 3 rfl) ?_
      refine lv_fload hx hb dX3_addRow_37 (lv_at hl 4 rfl) ?_
      refine cVi ⟨hx, hb, hml, hown, hts⟩ (c_rowStaysGood l G S N (by omega) (by omega) dx dy dz (mov_t h4) hp) (cwV 4 hts gX3_addRow_X3_rowStaysGood rfl rfl rfl (by decide +kernel) ⟨(Nat.le_of_ble_eq_true rfl), (Nat.le_of_ble_eq_true rfl)⟩) hw hT hS (rcv hw hT 0 0 (by decide) rfl rfl) (As := [.int (nI N), .float dx, .float dy, .float dz]) (rest := []) rfl hl.1 rfl (Nat.le_of_ble_eq_true rfl) dX3_addRow_39 ⟨(Nat.le_of_ble_eq_true rfl), (Nat.le_of_ble_eq_true rfl)⟩ (fun H locs hw hS => ?_)
      refine lv_if_ne (tgt := 55) hx hb dX3_addRow_42 (by decide) (fun h5 => ?_) (fun h5 => ?_)
      · skip
        have h5 := bI_n0.mp h5
        refine lv_aload_n hx hb dX3_addRow_55 rfl (lv_at hl 0 rfl) ?_
        refine lv_iload_n hx hb dX3_addRow_56 rfl (lv_at hl 1 rfl) ?_
        refine xVv ⟨hx, hb, hml, hown, hts⟩ (c_requireRoomFor l G (rgS dx dy dz (N - 1) (cpF6 S 1 0)) hl0 (nI N)) (cwV 1 hts gX3_addRow_X3_requireRoomFor rfl rfl rfl (by decide +kernel) ⟨(Nat.le_of_ble_eq_true rfl), (Nat.le_of_ble_eq_true rfl)⟩) hw hT hS (rcv hw hT 0 0 (by decide) rfl rfl) (As := [.int (nI N)]) (rest := []) rfl hl.1 rfl (Nat.le_of_ble_eq_true rfl) dX3_addRow_57 ⟨(Nat.le_of_ble_eq_true rfl), (Nat.le_of_ble_eq_true rfl)⟩ (fun E ce q9 H locs h6 hw hS hce hcv hcl => ?_) (fun H locs h6 hw hS => ?_)
        · skip
          exact xo hte hlk (or_n (arE_n hN1 hN5 h3 h4) (by unfold arM; rw [kN9, if_pos h5]; exact h6)) (by unfold arSX arM; rw [if_pos (arE_n hN1 hN5 h3 h4), kN9]; exact hw) hS hce hcv hcl (Nat.le_of_ble_eq_true rfl) (Nat.le_of_ble_eq_true rfl)
        refine lv_aload_n hx hb dX3_addRow_60 rfl (lv_at hl 0 rfl) ?_
        refine lv_iload_n hx hb dX3_addRow_61 rfl (lv_at hl 1 rfl) ?_
        refine lv_fload_n hx hb dX3_addRow_62 rfl (lv_at hl 2 rfl) ?_
        refine lv_fload_n hx hb dX3_addRow_63 rfl (lv_at hl 3 rfl) ?_
        refine lv_fload hx hb dX3_addRow_64 (lv_at hl 4 rfl) ?_
        refine lv_iload hx hb dX3_addRow_66 (lv_at hl 5 rfl) ?_
        refine lv_iload hx hb dX3_addRow_68 (lv_at hl 6 rfl) ?_
        refine cVi ⟨hx, hb, hml, hown, hts⟩ (c_addBodies l G (rgS dx dy dz (N - 1) (cpF6 S 1 0)) N (by omega) (by omega) dx dy dz g9 m9 (mov_t h4) (row_ok hp h5)) (cwV 6 hts gX3_addRow_X3_addBodies rfl rfl rfl (by decide +kernel) ⟨(Nat.le_of_ble_eq_true rfl), (Nat.le_of_ble_eq_true rfl)⟩) hw hT hS (rcv hw hT 0 0 (by decide) rfl rfl) (As := [.int (nI N), .float dx, .float dy, .float dz, .int g9, .int m9]) (rest := []) rfl hl.1 rfl (Nat.le_of_ble_eq_true rfl) dX3_addRow_70 ⟨(Nat.le_of_ble_eq_true rfl), (Nat.le_of_ble_eq_true rfl)⟩ (fun H locs hw hS => ?_)
        exact rix hx hb hlk hr (by unfold arM; rw [kN9]; exact hw) hS (or_n (arE_n hN1 hN5 h3 h4) (by unfold arM; rw [kN9, if_pos h5]; exact h6)) (by unfold arM; rw [kN9]) (vp_nar_int _) (Nat.le_of_ble_eq_true rfl) (Nat.le_of_ble_eq_true rfl) dX3_addRow_73
      · skip
        have h5 := bI_0.mp h5
        exact thrA hx hb hl0 hown hts hlk hml hl.1 (by unfold arSX arM; rw [if_pos (arE_n hN1 hN5 h3 h4), kN9]; exact hw) hT hS hte (or_n (arE_n hN1 hN5 h3 h4) (by rw [kN9, if_neg (by rw [h5]; decide)])) (List.mem_of_getElem? (i := 1) rfl) (List.mem_of_getElem? (i := 2) rfl) (fun _ h => List.mem_cons_of_mem _ (List.mem_append_left _ (List.mem_append_right _ h))) (List.mem_of_getElem? (i := 13) rfl) hS.1 dX3_addRow_45 dX3_addRow_48 dX3_addRow_49 dX3_addRow_51 dX3_addRow_54 (Nat.le_of_ble_eq_true rfl) (Nat.le_of_ble_eq_true rfl) (Nat.le_of_ble_eq_true rfl) (Nat.le_of_ble_eq_true rfl) (Nat.le_of_ble_eq_true rfl) (Nat.le_of_ble_eq_true rfl) hz1 hz2
    · skip
      have h2 : (nI 512) < n := Int32.not_le.mp h2
      exact thrA hx hb hl0 hown hts hlk hml hl.1 (by unfold arSX; rw [if_neg (by unfold arE; simp [h1, h2])]; exact hw) hT hS hte (or_s (by unfold arE; simp [h1, h2])) (List.mem_of_getElem? (i := 1) rfl) (List.mem_of_getElem? (i := 2) rfl) (fun _ h => List.mem_cons_of_mem _ (List.mem_append_left _ (List.mem_append_right _ h))) (List.mem_of_getElem? (i := 12) rfl) hS.1 dX3_addRow_12 dX3_addRow_15 dX3_addRow_16 dX3_addRow_18 dX3_addRow_21 (Nat.le_of_ble_eq_true rfl) (Nat.le_of_ble_eq_true rfl) (Nat.le_of_ble_eq_true rfl) (Nat.le_of_ble_eq_true rfl) (Nat.le_of_ble_eq_true rfl) (Nat.le_of_ble_eq_true rfl) hz1 hz2
def shR (dx dy dz : UInt32) : Nat → Nat → St → Int32 → St × Int32
  | 0, _, S, c => (S, c)
  | n + 1, i, S, c => if thS S i = true then shR dx dy dz n (i + 1) (sbS S i dx dy dz) (if sbB S i dx dy dz = true then c + 1 else c) else shR dx dy dz n (i + 1) S c
def shE (fr tt : Int32) (dx dy dz : UInt32) : Option String := if bnF fr = true then (if bnF tt = true then (if tt < fr then some xI else movX dx dy dz) else some xI) else some xI
def shD (S : St) (fr tt : Int32) (dx dy dz : UInt32) : St × Int32 := shR dx dy dz (kN tt + 1 - kN fr) (kN fr) S (nI 0)
theorem mt_bx {S : St} {k a j : Nat} {dx dy dz : UInt32} (h2 : j ≠ 2 * k + 2) (h3 : j ≠ 2 * k + 3) : bxS (mtS S k a dx dy dz) j = bxS S j := by
  unfold mtS
  split
  · unfold cpF6; exact bx_ne _ _ h2
  · show bxS (mtW S k a dx dy dz) j = _
    unfold mtW wdS cpF6
    rw [bx_ne _ _ h3, bx_ne _ _ h3, bx_ne _ _ h2]
theorem mt_tight {S : St} {k a : Nat} {dx dy dz : UInt32} : bxS (mtS S k a dx dy dz) (2 * k + 2) = va_cpy (bxS S a) (bxS S (2 * k + 2)) 0 0 6 := by
  unfold mtS
  split
  · unfold cpF6; exact bx_s _ _ _
  · show bxS (mtW S k a dx dy dz) _ = _
    unfold mtW wdS cpF6
    rw [bx_ne _ _ (by omega), bx_ne _ _ (by omega), bx_s]
theorem sb_gb {S : St} {i : Nat} {dx dy dz : UInt32} (hG : ∀ k, k < 512 → Gb (bxS S (2 * k + 2))) : ∀ k, k < 512 → Gb (bxS (sbS S i dx dy dz) (2 * k + 2)) := by
  intro k hk
  have e : bxS (sbV S i dx dy dz) (2 * k + 2) = bxS S (2 * k + 2) := by
    unfold sbV mvS cpF6
    rw [bx_ne _ _ (by omega), bx_ne _ _ (by omega)]
  unfold sbS
  split
  · next q =>
    by_cases h : k = i
    · subst h
      rw [mt_tight]
      exact cp_gb (gd_at q)
    · rw [mt_bx (by omega) (by omega), e]
      exact hG k hk
  · rw [e]; exact hG k hk
set_option maxRecDepth 100000 in
set_option maxHeartbeats 1000000 in
theorem c_shift (l : Launch) (G : Gm) (S : St) (hl0 : l.stackTraces = false) (hG0 : ∀ k, k < 512 → Gb (bxS S (2 * k + 2))) (fr tt : Int32) (dx dy dz : UInt32) : Ti l yX3_shift wsX3_shift ({ frames := 7, cells := 1, slots := 6, locals := 129 } : Room) [.ref (g_ad G 0 0), .int fr, .int tt, .float dx, .float dy, .float dz] G S (shE fr tt dx dy dz) S ((shD S fr tt dx dy dz).2) ((shD S fr tt dx dy dz).1) := by
  refine entX (cc := cX3_shift) (maxL := 8) (ret := (some .int)) (by decide) rfl (Nat.le_of_ble_eq_true rfl) ?_
  intro p e s m below meth c ls C hw hT hS hte hl
  obtain ⟨hx, hb, hr, hml, hown, hts, hlk⟩ := C
  have hz1 := hw.2.2.2.2.1
  have hz2 := hw.2.2.2.2.2
  have hl : lv_has ls 8 [(0, .ref (g_ad G 0 0)), (1, .int fr), (2, .int tt), (3, .float dx), (4, .float dy), (5, .float dz)] := hl
  refine lv_iload_n hx hb dX3_shift_0 rfl (lv_at hl 1 rfl) ?_
  refine cSi ⟨hx, hb, hml, hown, hts⟩ (c_isBodyNumber l G S fr) (va_cwS 1 hts gX3_shift_X3_isBodyNumber rfl rfl rfl (by decide +kernel) ⟨(Nat.le_of_ble_eq_true rfl), (Nat.le_of_ble_eq_true rfl)⟩) hw hT hS (As := [.int fr]) (rest := []) rfl hl.1 rfl (Nat.le_of_ble_eq_true rfl) dX3_shift_1 ⟨(Nat.le_of_ble_eq_true rfl), (Nat.le_of_ble_eq_true rfl)⟩ (fun H locs hw hS => ?_)
  refine lv_if_eq (tgt := 19) hx hb dX3_shift_4 (by decide) (fun h1 => ?_) (fun h1 => ?_)
  · skip
    have h1 := bI_0.mp h1
    exact thrI hx hb hl0 hown hts hlk hml hl.1 hw hT hS hte (by unfold shE; simp [h1]) (List.mem_of_getElem? (i := 1) rfl) (List.mem_of_getElem? (i := 2) rfl) (fun _ h => List.mem_cons_of_mem _ (List.mem_append_left _ (List.mem_append_right _ h))) (List.mem_of_getElem? (i := 14) rfl) hS.1 dX3_shift_19 dX3_shift_22 dX3_shift_23 dX3_shift_25 dX3_shift_28 (Nat.le_of_ble_eq_true rfl) (Nat.le_of_ble_eq_true rfl) (Nat.le_of_ble_eq_true rfl) (Nat.le_of_ble_eq_true rfl) (Nat.le_of_ble_eq_true rfl) (Nat.le_of_ble_eq_true rfl) hz1 hz2
  · skip
    have h1 := bI_n0.mp h1
    obtain ⟨fn, hfn, rfl⟩ := bn_nat h1
    refine lv_iload_n hx hb dX3_shift_7 rfl (lv_at hl 2 rfl) ?_
    refine cSi ⟨hx, hb, hml, hown, hts⟩ (c_isBodyNumber l G S tt) (va_cwS 1 hts gX3_shift_X3_isBodyNumber rfl rfl rfl (by decide +kernel) ⟨(Nat.le_of_ble_eq_true rfl), (Nat.le_of_ble_eq_true rfl)⟩) hw hT hS (As := [.int tt]) (rest := []) rfl hl.1 rfl (Nat.le_of_ble_eq_true rfl) dX3_shift_8 ⟨(Nat.le_of_ble_eq_true rfl), (Nat.le_of_ble_eq_true rfl)⟩ (fun H locs hw hS => ?_)
    refine lv_if_eq (tgt := 19) hx hb dX3_shift_11 (by decide) (fun h2 => ?_) (fun h2 => ?_)
    · skip
      have h2 := bI_0.mp h2
      exact thrI hx hb hl0 hown hts hlk hml hl.1 hw hT hS hte (by unfold shE; simp [h1, h2]) (List.mem_of_getElem? (i := 1) rfl) (List.mem_of_getElem? (i := 2) rfl) (fun _ h => List.mem_cons_of_mem _ (List.mem_append_left _ (List.mem_append_right _ h))) (List.mem_of_getElem? (i := 14) rfl) hS.1 dX3_shift_19 dX3_shift_22 dX3_shift_23 dX3_shift_25 dX3_shift_28 (Nat.le_of_ble_eq_true rfl) (Nat.le_of_ble_eq_true rfl) (Nat.le_of_ble_eq_true rfl) (Nat.le_of_ble_eq_true rfl) (Nat.le_of_ble_eq_true rfl) (Nat.le_of_ble_eq_true rfl) hz1 hz2
    · skip
      have h2 := bI_n0.mp h2
      obtain ⟨tn, htn, rfl⟩ := bn_nat h2
      refine lv_iload_n hx hb dX3_shift_14 rfl (lv_at hl 1 rfl) ?_
      refine lv_iload_n hx hb dX3_shift_15 rfl (lv_at hl 2 rfl) ?_
      refine lv_icmp_le (tgt := 29) hx hb dX3_shift_16 (by decide) (fun h3 => ?_) (fun h3 => ?_)
      · skip
        have h3 : fn ≤ tn := (nI_leI (by omega) (by omega)).mp h3
        refine lv_fload_n hx hb dX3_shift_29 rfl (lv_at hl 3 rfl) ?_
        refine lv_fload hx hb dX3_shift_30 (lv_at hl 4 rfl) ?_
        refine lv_fload hx hb dX3_shift_32 (lv_at hl 5 rfl) ?_
        refine xSv ⟨hx, hb, hml, hown, hts⟩ (c_requireMovement l G S hl0 dx dy dz) (va_cwS 3 hts gX3_shift_X3_requireMovement rfl rfl rfl (by decide +kernel) ⟨(Nat.le_of_ble_eq_true rfl), (Nat.le_of_ble_eq_true rfl)⟩) hw hT hS (As := [.float dx, .float dy, .float dz]) (rest := []) rfl hl.1 rfl (Nat.le_of_ble_eq_true rfl) dX3_shift_34 ⟨(Nat.le_of_ble_eq_true rfl), (Nat.le_of_ble_eq_true rfl)⟩ (fun E ce q9 H locs h4 hw hS hce hcv hcl => ?_) (fun H locs h4 hw hS => ?_)
        · skip
          exact xo hte hlk (by unfold shE; rw [if_pos h1, if_pos h2, if_neg (nI_nlt h3 (by omega))]; exact h4) hw hS hce hcv hcl (Nat.le_of_ble_eq_true rfl) (Nat.le_of_ble_eq_true rfl)
        refine lv_iconst (v := nI 0) hx hb dX3_shift_37 (by decide) ?_
        refine lv_istore (lv' := [(6, .int (nI 0)), (0, .ref (g_ad G 0 0)), (1, .int (nI fn)), (2, .int (nI tn)), (3, .float dx), (4, .float dy), (5, .float dz)]) hx hb dX3_shift_38 hl (by decide) rfl (fun ls hl => ?_)
        refine lv_iload_n hx hb dX3_shift_40 rfl (lv_at hl 2 rfl) ?_
        refine lv_istore (lv' := [(7, .int (nI fn)), (6, .int (nI 0)), (0, .ref (g_ad G 0 0)), (1, .int (nI fn)), (2, .int (nI tn)), (3, .float dx), (4, .float dy), (5, .float dz)]) hx hb dX3_shift_41 hl (by decide) rfl (fun ls hl => ?_)
        have hmv := mov_t h4
        have LOOP : ∀ (n i : Nat) (S2 : St) (cq : Int32) (H : Heap) (locs : List Loc) (ls : Array Slot), i + n = tn + 1 → (shR dx dy dz n i S2 cq = shR dx dy dz (tn + 1 - fn) fn S (nI 0)) → (∀ k, k < 512 → Gb (bxS S2 (2 * k + 2))) → wdM G S2 H s → va_S (g_A G) s.heap H locs → lv_has ls 8 [(7, .int (nI i)), (6, .int cq), (0, .ref (g_ad G 0 0)), (2, .int (nI tn)), (3, .float dx), (4, .float dy), (5, .float dz), (1, .int (nI fn))] → W p l e ({ frames := 7, cells := 1, slots := 6, locals := 129 } : Room) s m ([.ref (g_ad G 0 0), .int (nI fn), .int (nI tn), .float dx, .float dy, .float dz] : List Value).toArray below meth c H locs 1 6 (vx_MQ below (Ki G (shE (nI fn) (nI tn) dx dy dz) ((shD S (nI fn) (nI tn) dx dy dz).2) ((shD S (nI fn) (nI tn) dx dy dz).1)) (Kx G (shE (nI fn) (nI tn) dx dy dz) S) ([.ref (g_ad G 0 0), .int (nI fn), .int (nI tn), .float dx, .float dy, .float dz] : List Value).toArray s ({ frames := 7, cells := 1, slots := 6, locals := 129 } : Room).cells ({ frames := 7, cells := 1, slots := 6, locals := 129 } : Room).slots (g_A G)) (F0 m 43 ls []) := by
          intro n
          induction n with
          | zero =>
            intro i S2 cq H locs ls hn hq hG hw hS hl
            obtain rfl : tn + 1 = i := by omega
            refine lv_iload hx hb dX3_shift_43 (lv_at hl 0 rfl) ?_
            refine lv_iload_n hx hb dX3_shift_45 rfl (lv_at hl 3 rfl) ?_
            refine lv_icmp_gt (tgt := 90) hx hb dX3_shift_46 (by decide) (fun _ => ?_) (fun q => absurd (nI_lt (show tn < tn + 1 by omega) (by omega)) q)
            refine lv_iload hx hb dX3_shift_90 (lv_at hl 1 rfl) ?_
            exact rix hx hb hlk hr (by unfold shD; rw [kN_nI (show fn < 65536 by omega), kN_nI (show tn < 65536 by omega), ← hq]; exact hw) hS (by unfold shE; rw [if_pos h1, if_pos h2, if_neg (nI_nlt h3 (by omega))]; exact h4) (by unfold shD; rw [kN_nI (show fn < 65536 by omega), kN_nI (show tn < 65536 by omega), ← hq]; rfl) (vp_nar_int _) (Nat.le_of_ble_eq_true rfl) (Nat.le_of_ble_eq_true rfl) dX3_shift_92
          | succ n ih =>
            intro i S2 cq H locs ls hn hq hG hw hS hl
            have hi : i < tn + 1 := by omega
            refine lv_iload hx hb dX3_shift_43 (lv_at hl 0 rfl) ?_
            refine lv_iload_n hx hb dX3_shift_45 rfl (lv_at hl 3 rfl) ?_
            refine lv_icmp_gt (tgt := 90) hx hb dX3_shift_46 (by decide) (fun q => absurd q (nI_nlt (show i ≤ tn by omega) (by omega))) (fun _ => ?_)
            refine lv_aload_n hx hb dX3_shift_49 rfl (lv_at hl 2 rfl) ?_
            refine gf hx hb hown hts hw hT 0 0 (by decide) (ci := 3) rfl rfl (fun _ h => List.mem_cons_of_mem _ (List.mem_append_left _ (List.mem_append_left _ (List.mem_append_left _ (List.mem_append_left _ (List.mem_append_right _ h)))))) 1 (by decide) (List.mem_of_getElem? (i := 3) rfl) (v := .ref (g_ad G 3 0)) rfl dX3_shift_50 ?_
            refine lv_iload hx hb dX3_shift_53 (lv_at hl 0 rfl) ?_
            refine abl hx hb hw hT i (show i < 512 by omega) dX3_shift_55 ?_
            refine gf hx hb hown hts hw hT 4 i (show i < 512 by omega) (ci := 0) rfl rfl (fun _ h => List.mem_cons_of_mem _ (List.mem_append_left _ (List.mem_append_left _ (List.mem_append_left _ (List.mem_append_right _ h))))) 4 (by decide) (List.mem_of_getElem? (i := 4) rfl) (v := .int (bI (thS S2 i))) rfl dX3_shift_56 ?_
            refine lv_if_eq (tgt := 84) hx hb dX3_shift_59 (by decide) (fun h7 => ?_) (fun h7 => ?_)
            · skip
              have h7 := bI_0.mp h7
              refine lv_iinc (v := nI (i + 1)) (lv' := [(7, .int (nI (i + 1))), (6, .int cq), (0, .ref (g_ad G 0 0)), (2, .int (nI tn)), (3, .float dx), (4, .float dy), (5, .float dz), (1, .int (nI fn))]) hx hb dX3_shift_84 hl (k := 0) rfl (nI_add i 1) (by decide) rfl (fun ls hl => ?_)
              refine lv_goto (tgt := 43) hx hb dX3_shift_87 (by decide) ?_
              exact ih (i + 1) S2 cq H locs ls (by omega) (by rw [← hq, shR, if_neg (by rw [h7]; decide)]) hG hw hS (lv_sub hl [0, 1, 2, 3, 4, 5, 6, 7] rfl)
            · skip
              have h7 := bI_n0.mp h7
              refine lv_aload_n hx hb dX3_shift_62 rfl (lv_at hl 2 rfl) ?_
              refine lv_aload_n hx hb dX3_shift_63 rfl (lv_at hl 2 rfl) ?_
              refine gf hx hb hown hts hw hT 0 0 (by decide) (ci := 3) rfl rfl (fun _ h => List.mem_cons_of_mem _ (List.mem_append_left _ (List.mem_append_left _ (List.mem_append_left _ (List.mem_append_left _ (List.mem_append_right _ h)))))) 1 (by decide) (List.mem_of_getElem? (i := 3) rfl) (v := .ref (g_ad G 3 0)) rfl dX3_shift_64 ?_
              refine lv_iload hx hb dX3_shift_67 (lv_at hl 0 rfl) ?_
              refine abl hx hb hw hT i (show i < 512 by omega) dX3_shift_69 ?_
              refine lv_fload_n hx hb dX3_shift_70 rfl (lv_at hl 4 rfl) ?_
              refine lv_fload hx hb dX3_shift_71 (lv_at hl 5 rfl) ?_
              refine lv_fload hx hb dX3_shift_73 (lv_at hl 6 rfl) ?_
              refine cVi ⟨hx, hb, hml, hown, hts⟩ (c_shiftBody l G S2 i (show i < 512 by omega) dx dy dz hmv (hG i (by omega))) (cwV 4 hts gX3_shift_X3_shiftBody rfl rfl rfl (by decide +kernel) ⟨(Nat.le_of_ble_eq_true rfl), (Nat.le_of_ble_eq_true rfl)⟩) hw hT hS (rcv hw hT 0 0 (by decide) rfl rfl) (As := [.ref (g_ad G 4 i), .float dx, .float dy, .float dz]) (rest := []) rfl hl.1 rfl (Nat.le_of_ble_eq_true rfl) dX3_shift_75 ⟨(Nat.le_of_ble_eq_true rfl), (Nat.le_of_ble_eq_true rfl)⟩ (fun H locs hw hS => ?_)
              refine lv_if_eq (tgt := 84) hx hb dX3_shift_78 (by decide) (fun h8 => ?_) (fun h8 => ?_)
              · skip
                have h8 := bI_0.mp h8
                refine lv_iinc (v := nI (i + 1)) (lv' := [(7, .int (nI (i + 1))), (6, .int cq), (0, .ref (g_ad G 0 0)), (2, .int (nI tn)), (3, .float dx), (4, .float dy), (5, .float dz), (1, .int (nI fn))]) hx hb dX3_shift_84 hl (k := 0) rfl (nI_add i 1) (by decide) rfl (fun ls hl => ?_)
                refine lv_goto (tgt := 43) hx hb dX3_shift_87 (by decide) ?_
                exact ih (i + 1) ((sbS S2 i dx dy dz)) cq H locs ls (by omega) (by rw [← hq, shR, if_pos h7, if_neg (by rw [h8]; decide)]) (sb_gb hG) hw hS (lv_sub hl [0, 1, 2, 3, 4, 5, 6, 7] rfl)
              · skip
                have h8 := bI_n0.mp h8
                refine lv_iinc (v := cq + 1) (lv' := [(6, .int (cq + 1)), (7, .int (nI i)), (0, .ref (g_ad G 0 0)), (2, .int (nI tn)), (3, .float dx), (4, .float dy), (5, .float dz), (1, .int (nI fn))]) hx hb dX3_shift_81 hl (k := 1) rfl rfl (by decide) rfl (fun ls hl => ?_)
                refine lv_iinc (v := nI (i + 1)) (lv' := [(7, .int (nI (i + 1))), (6, .int (cq + 1)), (0, .ref (g_ad G 0 0)), (2, .int (nI tn)), (3, .float dx), (4, .float dy), (5, .float dz), (1, .int (nI fn))]) hx hb dX3_shift_84 hl (k := 1) rfl (nI_add i 1) (by decide) rfl (fun ls hl => ?_)
                refine lv_goto (tgt := 43) hx hb dX3_shift_87 (by decide) ?_
                exact ih (i + 1) ((sbS S2 i dx dy dz)) (cq + 1) H locs ls (by omega) (by rw [← hq, shR, if_pos h7, if_pos h8]) (sb_gb hG) hw hS (lv_sub hl [0, 1, 2, 3, 4, 5, 6, 7] rfl)
        exact LOOP (tn + 1 - fn) fn S (nI 0) _ _ ls (by omega) rfl hG0 hw hS (lv_sub hl [0, 1, 2, 4, 5, 6, 7, 3] rfl)
      · skip
        have h3 : ¬ fn ≤ tn := fun z => h3 ((nI_leI (by omega) (by omega)).mpr z)
        exact thrI hx hb hl0 hown hts hlk hml hl.1 hw hT hS hte (by unfold shE; rw [if_pos h1, if_pos h2, if_pos (nI_lt (by omega) (by omega))]) (List.mem_of_getElem? (i := 1) rfl) (List.mem_of_getElem? (i := 2) rfl) (fun _ h => List.mem_cons_of_mem _ (List.mem_append_left _ (List.mem_append_right _ h))) (List.mem_of_getElem? (i := 14) rfl) hS.1 dX3_shift_19 dX3_shift_22 dX3_shift_23 dX3_shift_25 dX3_shift_28 (Nat.le_of_ble_eq_true rfl) (Nat.le_of_ble_eq_true rfl) (Nat.le_of_ble_eq_true rfl) (Nat.le_of_ble_eq_true rfl) (Nat.le_of_ble_eq_true rfl) (Nat.le_of_ble_eq_true rfl) hz1 hz2
