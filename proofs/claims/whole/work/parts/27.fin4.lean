/-! PairFinder: its public methods, the first ones -/
theorem sw_out {x : Int32} {n : Nat} (hn : n < 2 ^ 31) (h : ∀ j, j < n → ¬ x = nI j) : x.toInt < 0 ∨ ((n : Int) - 1) < x.toInt := by
  rcases pk_ix x hn with q | q | ⟨j, hj, rfl⟩
  · exact Or.inl (by simpa using Int32.lt_iff_toInt_lt.mp q)
  · refine Or.inr ?_
    have := Int32.le_iff_toInt_le.mp q
    rw [nI_toInt hn] at this
    omega
  · exact absurd rfl (h j hj)
theorem sw_4 {j : Nat} (h : j < 4) : j = 0 ∨ j = 1 ∨ j = 2 ∨ j = 3 := by omega
theorem sw_7 {j : Nat} (h : j < 7) : j = 0 ∨ j = 1 ∨ j = 2 ∨ j = 3 ∨ j = 4 ∨ j = 5 ∨ j = 6 := by omega
def whX (wh n : Int32) : Option String := if wh < 0 then some xI else if wh < n then none else some xI
theorem wh_out {x : Int32} {n : Nat} (hn : n < 2 ^ 31) (h : x.toInt < 0 ∨ ((n : Int) - 1) < x.toInt) : whX x (nI n) = some xI := by
  unfold whX
  by_cases q : x < 0
  · rw [if_pos q]
  · rw [if_neg q, if_neg]
    intro z
    have z1 := Int32.lt_iff_toInt_lt.mp z
    rw [nI_toInt hn] at z1
    have q1 : ¬ x.toInt < 0 := fun y => q (Int32.lt_iff_toInt_lt.mpr (by simpa using y))
    rcases h with h | h
    · exact q1 h
    · omega
theorem nat_of {k : Int32} {n : Nat} (hn : n < 2 ^ 31) (h : ¬ k < 0) (h2 : k < nI n) : ∃ j, j < n ∧ k = nI j := by
  obtain ⟨j, hj, rfl⟩ := nI_of h
  exact ⟨j, (nI_ltI hj hn).mp h2, rfl⟩
def pcS (S : St) (q : Nat) (x y z : UInt32) : St := boxU S 0 (va_up (va_up (va_up (bxS S 0) q x) (q + 1) y) (q + 2) z)
theorem mvB_0 : mvB FP.fconst0 FP.fconst0 FP.fconst0 = true := by decide +kernel
theorem row_1 {S : St} {dx dy dz : UInt32} (hp : Gb (bxS S 0)) : ∀ t, t < 1 → Gb (rwF dx dy dz t (bxS (cpF6 S 1 0) 1)) := by
  intro t ht
  rw [show t = 0 by omega]
  show Gb (bxS (cpF6 S 1 0) 1)
  unfold cpF6
  rw [bx_s]
  exact cp_gb hp
theorem or_s {a b : Option String} {e : String} (h : a = some e) : orX a b = some e := by rw [h]; rfl
theorem or_n {a b c : Option String} (h : a = none) (h2 : b = c) : orX a b = c := by rw [h, ← h2]; rfl
theorem mov_t {dx dy dz : UInt32} (h : movX dx dy dz = none) : mvB dx dy dz = true := by
  unfold movX at h
  split at h
  · assumption
  · cases h
set_option maxRecDepth 100000 in
set_option maxHeartbeats 1000000 in
theorem c_low (l : Launch) (G : Gm) (S : St) (hl0 : l.stackTraces = false) (x y z : UInt32) : Tv l yX3_low wsX3_low ({ frames := 7, cells := 1, slots := 6, locals := 104 } : Room) [.ref (g_ad G 0 0), .float x, .float y, .float z] G S (goodX x y z) S (pcS S 0 x y z) := by
  refine entX (cc := cX3_low) (maxL := 4) (ret := none) (by decide) rfl (Nat.le_of_ble_eq_true rfl) ?_
  intro p e s m below meth c ls C hw hT hS hte hl
  obtain ⟨hx, hb, hr, hml, hown, hts, hlk⟩ := C
  have hz1 := hw.2.2.2.2.1
  have hz2 := hw.2.2.2.2.2
  have hl : lv_has ls 4 [(0, .ref (g_ad G 0 0)), (1, .float x), (2, .float y), (3, .float z)] := hl
  refine lv_fload_n hx hb dX3_low_0 rfl (lv_at hl 1 rfl) ?_
  refine lv_fload_n hx hb dX3_low_1 rfl (lv_at hl 2 rfl) ?_
  refine lv_fload_n hx hb dX3_low_2 rfl (lv_at hl 3 rfl) ?_
  refine xSv ⟨hx, hb, hml, hown, hts⟩ (c_requireGood l G S hl0 x y z) (va_cwS 3 hts gX3_low_X3_requireGood rfl rfl rfl (by decide +kernel) ⟨(Nat.le_of_ble_eq_true rfl), (Nat.le_of_ble_eq_true rfl)⟩) hw hT hS (As := [.float x, .float y, .float z]) (rest := []) rfl hl.1 rfl (Nat.le_of_ble_eq_true rfl) dX3_low_3 ⟨(Nat.le_of_ble_eq_true rfl), (Nat.le_of_ble_eq_true rfl)⟩ (fun E ce q9 H locs h1 hw hS hce hcv hcl => ?_) (fun H locs h1 hw hS => ?_)
  · skip
    exact xo hte hlk h1 hw hS hce hcv hcl (Nat.le_of_ble_eq_true rfl) (Nat.le_of_ble_eq_true rfl)
  refine lv_aload_n hx hb dX3_low_6 rfl (lv_at hl 0 rfl) ?_
  refine gf hx hb hown hts hw hT 0 0 (by decide) (ci := 3) rfl rfl (fun _ h => List.mem_cons_of_mem _ (List.mem_append_left _ (List.mem_append_left _ (List.mem_append_right _ h)))) 0 (by decide) (List.mem_of_getElem? (i := 1) rfl) (v := .ref (g_ad G 1 0)) rfl dX3_low_7 ?_
  refine lv_iconst (v := nI 0) hx hb dX3_low_10 (by decide) ?_
  refine lv_fload_n hx hb dX3_low_11 rfl (lv_at hl 1 rfl) ?_
  refine lv_fload_n hx hb dX3_low_12 rfl (lv_at hl 2 rfl) ?_
  refine lv_fload_n hx hb dX3_low_13 rfl (lv_at hl 3 rfl) ?_
  refine cVv ⟨hx, hb, hml, hown, hts⟩ (c_setCorner0 l G S 0 (by decide) x y z) (cwV 4 hts gX3_low_X1_setCorner rfl rfl rfl (by decide +kernel) ⟨(Nat.le_of_ble_eq_true rfl), (Nat.le_of_ble_eq_true rfl)⟩) hw hT hS (rcv hw hT 1 0 (by decide) rfl rfl) (As := [.int (nI 0), .float x, .float y, .float z]) (rest := []) rfl hl.1 rfl (Nat.le_of_ble_eq_true rfl) dX3_low_14 ⟨(Nat.le_of_ble_eq_true rfl), (Nat.le_of_ble_eq_true rfl)⟩ (fun H locs hw hS => ?_)
  exact rvx hx hb hlk hr hw hS h1 (Nat.le_of_ble_eq_true rfl) (Nat.le_of_ble_eq_true rfl) dX3_low_17
set_option maxRecDepth 100000 in
set_option maxHeartbeats 1000000 in
theorem c_high (l : Launch) (G : Gm) (S : St) (hl0 : l.stackTraces = false) (x y z : UInt32) : Tv l yX3_high wsX3_high ({ frames := 7, cells := 1, slots := 6, locals := 104 } : Room) [.ref (g_ad G 0 0), .float x, .float y, .float z] G S (goodX x y z) S (pcS S 3 x y z) := by
  refine entX (cc := cX3_high) (maxL := 4) (ret := none) (by decide) rfl (Nat.le_of_ble_eq_true rfl) ?_
  intro p e s m below meth c ls C hw hT hS hte hl
  obtain ⟨hx, hb, hr, hml, hown, hts, hlk⟩ := C
  have hz1 := hw.2.2.2.2.1
  have hz2 := hw.2.2.2.2.2
  have hl : lv_has ls 4 [(0, .ref (g_ad G 0 0)), (1, .float x), (2, .float y), (3, .float z)] := hl
  refine lv_fload_n hx hb dX3_high_0 rfl (lv_at hl 1 rfl) ?_
  refine lv_fload_n hx hb dX3_high_1 rfl (lv_at hl 2 rfl) ?_
  refine lv_fload_n hx hb dX3_high_2 rfl (lv_at hl 3 rfl) ?_
  refine xSv ⟨hx, hb, hml, hown, hts⟩ (c_requireGood l G S hl0 x y z) (va_cwS 3 hts gX3_high_X3_requireGood rfl rfl rfl (by decide +kernel) ⟨(Nat.le_of_ble_eq_true rfl), (Nat.le_of_ble_eq_true rfl)⟩) hw hT hS (As := [.float x, .float y, .float z]) (rest := []) rfl hl.1 rfl (Nat.le_of_ble_eq_true rfl) dX3_high_3 ⟨(Nat.le_of_ble_eq_true rfl), (Nat.le_of_ble_eq_true rfl)⟩ (fun E ce q9 H locs h1 hw hS hce hcv hcl => ?_) (fun H locs h1 hw hS => ?_)
  · skip
    exact xo hte hlk h1 hw hS hce hcv hcl (Nat.le_of_ble_eq_true rfl) (Nat.le_of_ble_eq_true rfl)
  refine lv_aload_n hx hb dX3_high_6 rfl (lv_at hl 0 rfl) ?_
  refine gf hx hb hown hts hw hT 0 0 (by decide) (ci := 3) rfl rfl (fun _ h => List.mem_cons_of_mem _ (List.mem_append_left _ (List.mem_append_left _ (List.mem_append_right _ h)))) 0 (by decide) (List.mem_of_getElem? (i := 1) rfl) (v := .ref (g_ad G 1 0)) rfl dX3_high_7 ?_
  refine lv_iconst (v := nI 3) hx hb dX3_high_10 (by decide) ?_
  refine lv_fload_n hx hb dX3_high_11 rfl (lv_at hl 1 rfl) ?_
  refine lv_fload_n hx hb dX3_high_12 rfl (lv_at hl 2 rfl) ?_
  refine lv_fload_n hx hb dX3_high_13 rfl (lv_at hl 3 rfl) ?_
  refine cVv ⟨hx, hb, hml, hown, hts⟩ (c_setCorner3 l G S 0 (by decide) x y z) (cwV 4 hts gX3_high_X1_setCorner rfl rfl rfl (by decide +kernel) ⟨(Nat.le_of_ble_eq_true rfl), (Nat.le_of_ble_eq_true rfl)⟩) hw hT hS (rcv hw hT 1 0 (by decide) rfl rfl) (As := [.int (nI 3), .float x, .float y, .float z]) (rest := []) rfl hl.1 rfl (Nat.le_of_ble_eq_true rfl) dX3_high_14 ⟨(Nat.le_of_ble_eq_true rfl), (Nat.le_of_ble_eq_true rfl)⟩ (fun H locs hw hS => ?_)
  exact rvx hx hb hlk hr hw hS h1 (Nat.le_of_ble_eq_true rfl) (Nat.le_of_ble_eq_true rfl) dX3_high_17
set_option maxRecDepth 100000 in
set_option maxHeartbeats 1000000 in
theorem c_add (l : Launch) (G : Gm) (S : St) (hl0 : l.stackTraces = false) (hp : Gb (bxS S 0)) (g9 m9 : Int32) : Ti l yX3_add wsX3_add ({ frames := 7, cells := 2, slots := 12, locals := 133 } : Room) [.ref (g_ad G 0 0), .int g9, .int m9] G S (orX (padX S) (roomX S (nI 1))) S ((abD 1 FP.fconst0 FP.fconst0 FP.fconst0 g9 m9 S).2.1) (abT 1 FP.fconst0 FP.fconst0 FP.fconst0 g9 m9 S) := by
  refine entX (cc := cX3_add) (maxL := 3) (ret := (some .int)) (by decide) rfl (Nat.le_of_ble_eq_true rfl) ?_
  intro p e s m below meth c ls C hw hT hS hte hl
  obtain ⟨hx, hb, hr, hml, hown, hts, hlk⟩ := C
  have hz1 := hw.2.2.2.2.1
  have hz2 := hw.2.2.2.2.2
  have hl : lv_has ls 3 [(0, .ref (g_ad G 0 0)), (1, .int g9), (2, .int m9)] := hl
  refine lv_aload_n hx hb dX3_add_0 rfl (lv_at hl 0 rfl) ?_
  refine xVv ⟨hx, hb, hml, hown, hts⟩ (c_requirePadIsBox l G S hl0) (cwV 0 hts gX3_add_X3_requirePadIsBox rfl rfl rfl (by decide +kernel) ⟨(Nat.le_of_ble_eq_true rfl), (Nat.le_of_ble_eq_true rfl)⟩) hw hT hS (rcv hw hT 0 0 (by decide) rfl rfl) (As := []) (rest := []) rfl hl.1 rfl (Nat.le_of_ble_eq_true rfl) dX3_add_1 ⟨(Nat.le_of_ble_eq_true rfl), (Nat.le_of_ble_eq_true rfl)⟩ (fun E ce q9 H locs h1 hw hS hce hcv hcl => ?_) (fun H locs h1 hw hS => ?_)
  · skip
    exact xo hte hlk (or_s h1) hw hS hce hcv hcl (Nat.le_of_ble_eq_true rfl) (Nat.le_of_ble_eq_true rfl)
  refine lv_aload_n hx hb dX3_add_4 rfl (lv_at hl 0 rfl) ?_
  refine lv_iconst (v := nI 1) hx hb dX3_add_5 (by decide) ?_
  refine xVv ⟨hx, hb, hml, hown, hts⟩ (c_requireRoomFor l G S hl0 (nI 1)) (cwV 1 hts gX3_add_X3_requireRoomFor rfl rfl rfl (by decide +kernel) ⟨(Nat.le_of_ble_eq_true rfl), (Nat.le_of_ble_eq_true rfl)⟩) hw hT hS (rcv hw hT 0 0 (by decide) rfl rfl) (As := [.int (nI 1)]) (rest := []) rfl hl.1 rfl (Nat.le_of_ble_eq_true rfl) dX3_add_6 ⟨(Nat.le_of_ble_eq_true rfl), (Nat.le_of_ble_eq_true rfl)⟩ (fun E ce q9 H locs h2 hw hS hce hcv hcl => ?_) (fun H locs h2 hw hS => ?_)
  · skip
    exact xo hte hlk (or_n h1 h2) hw hS hce hcv hcl (Nat.le_of_ble_eq_true rfl) (Nat.le_of_ble_eq_true rfl)
  refine lv_aload_n hx hb dX3_add_9 rfl (lv_at hl 0 rfl) ?_
  refine lv_iconst (v := nI 1) hx hb dX3_add_10 (by decide) ?_
  refine lv_fconst0 hx hb dX3_add_11 ?_
  refine lv_fconst0 hx hb dX3_add_12 ?_
  refine lv_fconst0 hx hb dX3_add_13 ?_
  refine lv_iload_n hx hb dX3_add_14 rfl (lv_at hl 1 rfl) ?_
  refine lv_iload_n hx hb dX3_add_15 rfl (lv_at hl 2 rfl) ?_
  refine cVi ⟨hx, hb, hml, hown, hts⟩ (c_addBodies l G S 1 (by omega) (by omega) FP.fconst0 FP.fconst0 FP.fconst0 g9 m9 mvB_0 (row_1 hp)) (cwV 6 hts gX3_add_X3_addBodies rfl rfl rfl (by decide +kernel) ⟨(Nat.le_of_ble_eq_true rfl), (Nat.le_of_ble_eq_true rfl)⟩) hw hT hS (rcv hw hT 0 0 (by decide) rfl rfl) (As := [.int (nI 1), .float FP.fconst0, .float FP.fconst0, .float FP.fconst0, .int g9, .int m9]) (rest := []) rfl hl.1 rfl (Nat.le_of_ble_eq_true rfl) dX3_add_16 ⟨(Nat.le_of_ble_eq_true rfl), (Nat.le_of_ble_eq_true rfl)⟩ (fun H locs hw hS => ?_)
  exact rix hx hb hlk hr hw hS (or_n h1 h2) rfl (vp_nar_int _) (Nat.le_of_ble_eq_true rfl) (Nat.le_of_ble_eq_true rfl) dX3_add_19
set_option maxRecDepth 100000 in
set_option maxHeartbeats 1000000 in
theorem c_move (l : Launch) (G : Gm) (S : St) (hl0 : l.stackTraces = false) (hp : Gb (bxS S 0)) (k : Int32) (dx dy dz : UInt32) : Ti l yX3_move wsX3_move ({ frames := 7, cells := 3, slots := 18, locals := 105 } : Room) [.ref (g_ad G 0 0), .int k, .float dx, .float dy, .float dz] G S (orX (thereX S k) (orX (padX S) (movX dx dy dz))) S (bI (!(mtB S (kN k) 0))) (mtS S (kN k) 0 dx dy dz) := by
  refine entX (cc := cX3_move) (maxL := 5) (ret := (some .boolean)) (by decide) rfl (Nat.le_of_ble_eq_true rfl) ?_
  intro p e s m below meth c ls C hw hT hS hte hl
  obtain ⟨hx, hb, hr, hml, hown, hts, hlk⟩ := C
  have hz1 := hw.2.2.2.2.1
  have hz2 := hw.2.2.2.2.2
  have hl : lv_has ls 5 [(0, .ref (g_ad G 0 0)), (1, .int k), (2, .float dx), (3, .float dy), (4, .float dz)] := hl
  refine lv_aload_n hx hb dX3_move_0 rfl (lv_at hl 0 rfl) ?_
  refine lv_iload_n hx hb dX3_move_1 rfl (lv_at hl 1 rfl) ?_
  refine xVv ⟨hx, hb, hml, hown, hts⟩ (c_requireThere l G S hl0 k) (cwV 1 hts gX3_move_X3_requireThere rfl rfl rfl (by decide +kernel) ⟨(Nat.le_of_ble_eq_true rfl), (Nat.le_of_ble_eq_true rfl)⟩) hw hT hS (rcv hw hT 0 0 (by decide) rfl rfl) (As := [.int k]) (rest := []) rfl hl.1 rfl (Nat.le_of_ble_eq_true rfl) dX3_move_2 ⟨(Nat.le_of_ble_eq_true rfl), (Nat.le_of_ble_eq_true rfl)⟩ (fun E ce q9 H locs h1 hw hS hce hcv hcl => ?_) (fun H locs h1 hw hS => ?_)
  · skip
    exact xo hte hlk (or_s h1) hw hS hce hcv hcl (Nat.le_of_ble_eq_true rfl) (Nat.le_of_ble_eq_true rfl)
  obtain ⟨kn, hkn, rfl, tkn⟩ := there_n h1
  refine lv_aload_n hx hb dX3_move_5 rfl (lv_at hl 0 rfl) ?_
  refine xVv ⟨hx, hb, hml, hown, hts⟩ (c_requirePadIsBox l G S hl0) (cwV 0 hts gX3_move_X3_requirePadIsBox rfl rfl rfl (by decide +kernel) ⟨(Nat.le_of_ble_eq_true rfl), (Nat.le_of_ble_eq_true rfl)⟩) hw hT hS (rcv hw hT 0 0 (by decide) rfl rfl) (As := []) (rest := []) rfl hl.1 rfl (Nat.le_of_ble_eq_true rfl) dX3_move_6 ⟨(Nat.le_of_ble_eq_true rfl), (Nat.le_of_ble_eq_true rfl)⟩ (fun E ce q9 H locs h2 hw hS hce hcv hcl => ?_) (fun H locs h2 hw hS => ?_)
  · skip
    exact xo hte hlk (or_n h1 (or_s h2)) hw hS hce hcv hcl (Nat.le_of_ble_eq_true rfl) (Nat.le_of_ble_eq_true rfl)
  refine lv_fload_n hx hb dX3_move_9 rfl (lv_at hl 2 rfl) ?_
  refine lv_fload_n hx hb dX3_move_10 rfl (lv_at hl 3 rfl) ?_
  refine lv_fload hx hb dX3_move_11 (lv_at hl 4 rfl) ?_
  refine xSv ⟨hx, hb, hml, hown, hts⟩ (c_requireMovement l G S hl0 dx dy dz) (va_cwS 3 hts gX3_move_X3_requireMovement rfl rfl rfl (by decide +kernel) ⟨(Nat.le_of_ble_eq_true rfl), (Nat.le_of_ble_eq_true rfl)⟩) hw hT hS (As := [.float dx, .float dy, .float dz]) (rest := []) rfl hl.1 rfl (Nat.le_of_ble_eq_true rfl) dX3_move_13 ⟨(Nat.le_of_ble_eq_true rfl), (Nat.le_of_ble_eq_true rfl)⟩ (fun E ce q9 H locs h3 hw hS hce hcv hcl => ?_) (fun H locs h3 hw hS => ?_)
  · skip
    exact xo hte hlk (or_n h1 (or_n h2 h3)) hw hS hce hcv hcl (Nat.le_of_ble_eq_true rfl) (Nat.le_of_ble_eq_true rfl)
  refine lv_aload_n hx hb dX3_move_16 rfl (lv_at hl 0 rfl) ?_
  refine gf hx hb hown hts hw hT 0 0 (by decide) (ci := 3) rfl rfl (fun _ h => List.mem_cons_of_mem _ (List.mem_append_left _ (List.mem_append_left _ (List.mem_append_left _ (List.mem_append_left _ (List.mem_append_right _ h)))))) 1 (by decide) (List.mem_of_getElem? (i := 1) rfl) (v := .ref (g_ad G 3 0)) rfl dX3_move_17 ?_
  refine lv_iload_n hx hb dX3_move_20 rfl (lv_at hl 1 rfl) ?_
  refine abl hx hb hw hT kn (show kn < 512 by omega) dX3_move_21 ?_
  refine lv_aload_n hx hb dX3_move_22 rfl (lv_at hl 0 rfl) ?_
  refine gf hx hb hown hts hw hT 0 0 (by decide) (ci := 3) rfl rfl (fun _ h => List.mem_cons_of_mem _ (List.mem_append_left _ (List.mem_append_left _ (List.mem_append_left _ (List.mem_append_left _ (List.mem_append_right _ h)))))) 0 (by decide) (List.mem_of_getElem? (i := 2) rfl) (v := .ref (g_ad G 1 0)) rfl dX3_move_23 ?_
  refine lv_fload_n hx hb dX3_move_26 rfl (lv_at hl 2 rfl) ?_
  refine lv_fload_n hx hb dX3_move_27 rfl (lv_at hl 3 rfl) ?_
  refine lv_fload hx hb dX3_move_28 (lv_at hl 4 rfl) ?_
  refine cVi ⟨hx, hb, hml, hown, hts⟩ (c_moveTo l G S kn (show kn < 512 by omega) 0 (by decide) (by omega) (by omega) dx dy dz (fun _ => mt_ok hp (by omega) (mov_t h3))) (cwV 4 hts gX3_move_X0_moveTo rfl rfl rfl (by decide +kernel) ⟨(Nat.le_of_ble_eq_true rfl), (Nat.le_of_ble_eq_true rfl)⟩) hw hT hS (rcv hw hT 4 kn (show kn < 512 by omega) rfl rfl) (As := [.ref (g_ad G 1 0), .float dx, .float dy, .float dz]) (rest := []) rfl hl.1 rfl (Nat.le_of_ble_eq_true rfl) dX3_move_30 ⟨(Nat.le_of_ble_eq_true rfl), (Nat.le_of_ble_eq_true rfl)⟩ (fun H locs hw hS => ?_)
  exact rix hx hb hlk hr (by rw [kN_nI (show kn < 65536 by omega)]; exact hw) hS (or_n h1 (or_n h2 h3)) (by rw [kN_nI (show kn < 65536 by omega)]) (bI_nar _) (Nat.le_of_ble_eq_true rfl) (Nat.le_of_ble_eq_true rfl) dX3_move_33
set_option maxRecDepth 100000 in
set_option maxHeartbeats 1000000 in
theorem c_filter (l : Launch) (G : Gm) (S : St) (hl0 : l.stackTraces = false) (k : Int32) (g9 m9 : Int32) : Tv l yX3_filter wsX3_filter ({ frames := 7, cells := 1, slots := 6, locals := 103 } : Room) [.ref (g_ad G 0 0), .int k, .int g9, .int m9] G S (thereX S k) S (flS S (kN k) g9 m9) := by
  refine entX (cc := cX3_filter) (maxL := 4) (ret := none) (by decide) rfl (Nat.le_of_ble_eq_true rfl) ?_
  intro p e s m below meth c ls C hw hT hS hte hl
  obtain ⟨hx, hb, hr, hml, hown, hts, hlk⟩ := C
  have hz1 := hw.2.2.2.2.1
  have hz2 := hw.2.2.2.2.2
  have hl : lv_has ls 4 [(0, .ref (g_ad G 0 0)), (1, .int k), (2, .int g9), (3, .int m9)] := hl
  refine lv_aload_n hx hb dX3_filter_0 rfl (lv_at hl 0 rfl) ?_
  refine lv_iload_n hx hb dX3_filter_1 rfl (lv_at hl 1 rfl) ?_
  refine xVv ⟨hx, hb, hml, hown, hts⟩ (c_requireThere l G S hl0 k) (cwV 1 hts gX3_filter_X3_requireThere rfl rfl rfl (by decide +kernel) ⟨(Nat.le_of_ble_eq_true rfl), (Nat.le_of_ble_eq_true rfl)⟩) hw hT hS (rcv hw hT 0 0 (by decide) rfl rfl) (As := [.int k]) (rest := []) rfl hl.1 rfl (Nat.le_of_ble_eq_true rfl) dX3_filter_2 ⟨(Nat.le_of_ble_eq_true rfl), (Nat.le_of_ble_eq_true rfl)⟩ (fun E ce q9 H locs h1 hw hS hce hcv hcl => ?_) (fun H locs h1 hw hS => ?_)
  · skip
    exact xo hte hlk h1 hw hS hce hcv hcl (Nat.le_of_ble_eq_true rfl) (Nat.le_of_ble_eq_true rfl)
  obtain ⟨kn, hkn, rfl, tkn⟩ := there_n h1
  refine lv_aload_n hx hb dX3_filter_5 rfl (lv_at hl 0 rfl) ?_
  refine gf hx hb hown hts hw hT 0 0 (by decide) (ci := 3) rfl rfl (fun _ h => List.mem_cons_of_mem _ (List.mem_append_left _ (List.mem_append_left _ (List.mem_append_right _ h)))) 1 (by decide) (List.mem_of_getElem? (i := 1) rfl) (v := .ref (g_ad G 3 0)) rfl dX3_filter_6 ?_
  refine lv_iload_n hx hb dX3_filter_9 rfl (lv_at hl 1 rfl) ?_
  refine abl hx hb hw hT kn (show kn < 512 by omega) dX3_filter_10 ?_
  refine lv_iload_n hx hb dX3_filter_11 rfl (lv_at hl 2 rfl) ?_
  refine lv_iload_n hx hb dX3_filter_12 rfl (lv_at hl 3 rfl) ?_
  refine cVv ⟨hx, hb, hml, hown, hts⟩ (c_setFilter l G S kn (show kn < 512 by omega) g9 m9) (cwV 2 hts gX3_filter_X0_setFilter rfl rfl rfl (by decide +kernel) ⟨(Nat.le_of_ble_eq_true rfl), (Nat.le_of_ble_eq_true rfl)⟩) hw hT hS (rcv hw hT 4 kn (show kn < 512 by omega) rfl rfl) (As := [.int g9, .int m9]) (rest := []) rfl hl.1 rfl (Nat.le_of_ble_eq_true rfl) dX3_filter_13 ⟨(Nat.le_of_ble_eq_true rfl), (Nat.le_of_ble_eq_true rfl)⟩ (fun H locs hw hS => ?_)
  exact rvx hx hb hlk hr (by rw [kN_nI (show kn < 65536 by omega)]; exact hw) hS h1 (Nat.le_of_ble_eq_true rfl) (Nat.le_of_ble_eq_true rfl) dX3_filter_16
set_option maxRecDepth 100000 in
set_option maxHeartbeats 1000000 in
theorem c_paired (l : Launch) (G : Gm) (S : St) (hl0 : l.stackTraces = false) (hi1 : (ipS S).1 < 4) (hi2 : (ipS S).2 < 4) (a b : Int32) : Ti l yX3_paired wsX3_paired ({ frames := 7, cells := 2, slots := 12, locals := 103 } : Room) [.ref (g_ad G 0 0), .int a, .int b] G S (orX (thereX S a) (thereX S b)) S (bI (apB S (kN a) (kN b))) S := by
  refine entX (cc := cX3_paired) (maxL := 3) (ret := (some .boolean)) (by decide) rfl (Nat.le_of_ble_eq_true rfl) ?_
  intro p e s m below meth c ls C hw hT hS hte hl
  obtain ⟨hx, hb, hr, hml, hown, hts, hlk⟩ := C
  have hz1 := hw.2.2.2.2.1
  have hz2 := hw.2.2.2.2.2
  have hl : lv_has ls 3 [(0, .ref (g_ad G 0 0)), (1, .int a), (2, .int b)] := hl
  refine lv_aload_n hx hb dX3_paired_0 rfl (lv_at hl 0 rfl) ?_
  refine lv_iload_n hx hb dX3_paired_1 rfl (lv_at hl 1 rfl) ?_
  refine xVv ⟨hx, hb, hml, hown, hts⟩ (c_requireThere l G S hl0 a) (cwV 1 hts gX3_paired_X3_requireThere rfl rfl rfl (by decide +kernel) ⟨(Nat.le_of_ble_eq_true rfl), (Nat.le_of_ble_eq_true rfl)⟩) hw hT hS (rcv hw hT 0 0 (by decide) rfl rfl) (As := [.int a]) (rest := []) rfl hl.1 rfl (Nat.le_of_ble_eq_true rfl) dX3_paired_2 ⟨(Nat.le_of_ble_eq_true rfl), (Nat.le_of_ble_eq_true rfl)⟩ (fun E ce q9 H locs h1 hw hS hce hcv hcl => ?_) (fun H locs h1 hw hS => ?_)
  · skip
    exact xo hte hlk (or_s h1) hw hS hce hcv hcl (Nat.le_of_ble_eq_true rfl) (Nat.le_of_ble_eq_true rfl)
  obtain ⟨an, han, rfl, tan⟩ := there_n h1
  refine lv_aload_n hx hb dX3_paired_5 rfl (lv_at hl 0 rfl) ?_
  refine lv_iload_n hx hb dX3_paired_6 rfl (lv_at hl 2 rfl) ?_
  refine xVv ⟨hx, hb, hml, hown, hts⟩ (c_requireThere l G S hl0 b) (cwV 1 hts gX3_paired_X3_requireThere rfl rfl rfl (by decide +kernel) ⟨(Nat.le_of_ble_eq_true rfl), (Nat.le_of_ble_eq_true rfl)⟩) hw hT hS (rcv hw hT 0 0 (by decide) rfl rfl) (As := [.int b]) (rest := []) rfl hl.1 rfl (Nat.le_of_ble_eq_true rfl) dX3_paired_7 ⟨(Nat.le_of_ble_eq_true rfl), (Nat.le_of_ble_eq_true rfl)⟩ (fun E ce q9 H locs h2 hw hS hce hcv hcl => ?_) (fun H locs h2 hw hS => ?_)
  · skip
    exact xo hte hlk (or_n h1 h2) hw hS hce hcv hcl (Nat.le_of_ble_eq_true rfl) (Nat.le_of_ble_eq_true rfl)
  obtain ⟨bn, hbn, rfl, tbn⟩ := there_n h2
  refine lv_aload_n hx hb dX3_paired_10 rfl (lv_at hl 0 rfl) ?_
  refine lv_iload_n hx hb dX3_paired_11 rfl (lv_at hl 1 rfl) ?_
  refine lv_iload_n hx hb dX3_paired_12 rfl (lv_at hl 2 rfl) ?_
  refine cVi ⟨hx, hb, hml, hown, hts⟩ (c_arePair l G S (by omega) (by omega) an (by omega) bn (by omega)) (cwV 2 hts gX3_paired_X3_arePair rfl rfl rfl (by decide +kernel) ⟨(Nat.le_of_ble_eq_true rfl), (Nat.le_of_ble_eq_true rfl)⟩) hw hT hS (rcv hw hT 0 0 (by decide) rfl rfl) (As := [.int (nI an), .int (nI bn)]) (rest := []) rfl hl.1 rfl (Nat.le_of_ble_eq_true rfl) dX3_paired_13 ⟨(Nat.le_of_ble_eq_true rfl), (Nat.le_of_ble_eq_true rfl)⟩ (fun H locs hw hS => ?_)
  exact rix hx hb hlk hr hw hS (or_n h1 h2) (by rw [kN_nI (show an < 65536 by omega), kN_nI (show bn < 65536 by omega)]) (bI_nar _) (Nat.le_of_ble_eq_true rfl) (Nat.le_of_ble_eq_true rfl) dX3_paired_16
theorem found_n {S : St} {k : Int32} {c : Nat} (hc : nfS S 2 = nI c) (hc5 : c ≤ 512) (h : foundX S k = none) : ∃ j, j < c ∧ k = nI j := by
  unfold foundX at h
  rw [hc] at h
  by_cases q : k < 0
  · rw [if_pos q] at h; cases h
  · rw [if_neg q] at h
    by_cases q2 : k < nI c
    · exact nat_of (by omega) q q2
    · rw [if_neg q2] at h; cases h
set_option maxRecDepth 100000 in
set_option maxHeartbeats 1000000 in
theorem c_found (l : Launch) (G : Gm) (S : St) (hl0 : l.stackTraces = false) (c9 : Nat) (hc : nfS S 2 = nI c9) (hc5 : c9 ≤ 512) (k : Int32) : Ti l yX3_found wsX3_found ({ frames := 7, cells := 1, slots := 6, locals := 103 } : Room) [.ref (g_ad G 0 0), .int k] G S (foundX S k) S (fbS S (kN k)) S := by
  refine entX (cc := cX3_found) (maxL := 2) (ret := (some .int)) (by decide) rfl (Nat.le_of_ble_eq_true rfl) ?_
  intro p e s m below meth c ls C hw hT hS hte hl
  obtain ⟨hx, hb, hr, hml, hown, hts, hlk⟩ := C
  have hz1 := hw.2.2.2.2.1
  have hz2 := hw.2.2.2.2.2
  have hl : lv_has ls 2 [(0, .ref (g_ad G 0 0)), (1, .int k)] := hl
  refine lv_aload_n hx hb dX3_found_0 rfl (lv_at hl 0 rfl) ?_
  refine lv_iload_n hx hb dX3_found_1 rfl (lv_at hl 1 rfl) ?_
  refine xVv ⟨hx, hb, hml, hown, hts⟩ (c_requireFound l G S hl0 k) (cwV 1 hts gX3_found_X3_requireFound rfl rfl rfl (by decide +kernel) ⟨(Nat.le_of_ble_eq_true rfl), (Nat.le_of_ble_eq_true rfl)⟩) hw hT hS (rcv hw hT 0 0 (by decide) rfl rfl) (As := [.int k]) (rest := []) rfl hl.1 rfl (Nat.le_of_ble_eq_true rfl) dX3_found_2 ⟨(Nat.le_of_ble_eq_true rfl), (Nat.le_of_ble_eq_true rfl)⟩ (fun E ce q9 H locs h1 hw hS hce hcv hcl => ?_) (fun H locs h1 hw hS => ?_)
  · skip
    exact xo hte hlk h1 hw hS hce hcv hcl (Nat.le_of_ble_eq_true rfl) (Nat.le_of_ble_eq_true rfl)
  obtain ⟨kn, hkn, rfl⟩ := found_n hc hc5 h1
  refine lv_aload_n hx hb dX3_found_5 rfl (lv_at hl 0 rfl) ?_
  refine gf hx hb hown hts hw hT 0 0 (by decide) (ci := 3) rfl rfl (fun _ h => List.mem_cons_of_mem _ (List.mem_append_left _ (List.mem_append_right _ h))) 8 (by decide) (List.mem_of_getElem? (i := 1) rfl) (v := .ref (g_ad G 7 0)) rfl dX3_found_6 ?_
  refine lv_iload_n hx hb dX3_found_9 rfl (lv_at hl 1 rfl) ?_
  refine ail hx hb hw hT 7 0 (by decide) (f := fbS S) rfl kn (show kn < 512 by omega) (by decide) dX3_found_10 ?_
  exact rix hx hb hlk hr hw hS h1 (by rw [kN_nI (show kn < 65536 by omega)]) (vp_nar_int _) (Nat.le_of_ble_eq_true rfl) (Nat.le_of_ble_eq_true rfl) dX3_found_11
set_option maxRecDepth 100000 in
set_option maxHeartbeats 1000000 in
theorem c_where (l : Launch) (G : Gm) (S : St) (hl0 : l.stackTraces = false) (c9 : Nat) (hc : nfS S 2 = nI c9) (hc5 : c9 ≤ 512) (k : Int32) : Tf l yX3_where wsX3_where ({ frames := 7, cells := 1, slots := 6, locals := 103 } : Room) [.ref (g_ad G 0 0), .int k] G S (foundX S k) S (ffS S (kN k)) S := by
  refine entX (cc := cX3_where) (maxL := 2) (ret := (some .float)) (by decide) rfl (Nat.le_of_ble_eq_true rfl) ?_
  intro p e s m below meth c ls C hw hT hS hte hl
  obtain ⟨hx, hb, hr, hml, hown, hts, hlk⟩ := C
  have hz1 := hw.2.2.2.2.1
  have hz2 := hw.2.2.2.2.2
  have hl : lv_has ls 2 [(0, .ref (g_ad G 0 0)), (1, .int k)] := hl
  refine lv_aload_n hx hb dX3_where_0 rfl (lv_at hl 0 rfl) ?_
  refine lv_iload_n hx hb dX3_where_1 rfl (lv_at hl 1 rfl) ?_
  refine xVv ⟨hx, hb, hml, hown, hts⟩ (c_requireFound l G S hl0 k) (cwV 1 hts gX3_where_X3_requireFound rfl rfl rfl (by decide +kernel) ⟨(Nat.le_of_ble_eq_true rfl), (Nat.le_of_ble_eq_true rfl)⟩) hw hT hS (rcv hw hT 0 0 (by decide) rfl rfl) (As := [.int k]) (rest := []) rfl hl.1 rfl (Nat.le_of_ble_eq_true rfl) dX3_where_2 ⟨(Nat.le_of_ble_eq_true rfl), (Nat.le_of_ble_eq_true rfl)⟩ (fun E ce q9 H locs h1 hw hS hce hcv hcl => ?_) (fun H locs h1 hw hS => ?_)
  · skip
    exact xo hte hlk h1 hw hS hce hcv hcl (Nat.le_of_ble_eq_true rfl) (Nat.le_of_ble_eq_true rfl)
  obtain ⟨kn, hkn, rfl⟩ := found_n hc hc5 h1
  refine lv_aload_n hx hb dX3_where_5 rfl (lv_at hl 0 rfl) ?_
  refine gf hx hb hown hts hw hT 0 0 (by decide) (ci := 3) rfl rfl (fun _ h => List.mem_cons_of_mem _ (List.mem_append_left _ (List.mem_append_right _ h))) 9 (by decide) (List.mem_of_getElem? (i := 1) rfl) (v := .ref (g_ad G 8 0)) rfl dX3_where_6 ?_
  refine lv_iload_n hx hb dX3_where_9 rfl (lv_at hl 1 rfl) ?_
  refine afl hx hb hw hT 8 0 (by decide) (f := ffS S) rfl kn (show kn < 512 by omega) (by decide) dX3_where_10 ?_
  exact rfx hx hb hlk hr hw hS h1 (by rw [kN_nI (show kn < 65536 by omega)]) (Nat.le_of_ble_eq_true rfl) (Nat.le_of_ble_eq_true rfl) dX3_where_11
def cnF (S : St) (k wh : Int32) : UInt32 := if wh < nI 6 then bxS S (2 * kN k + 3) (kN wh) else bxS S (2 * kN k + 2) (kN wh - 6)
set_option maxRecDepth 100000 in
set_option maxHeartbeats 1000000 in
theorem c_corner (l : Launch) (G : Gm) (S : St) (hl0 : l.stackTraces = false) (k wh : Int32) : Tf l yX3_corner wsX3_corner ({ frames := 7, cells := 2, slots := 12, locals := 103 } : Room) [.ref (g_ad G 0 0), .int k, .int wh] G S (orX (thereX S k) (whX wh (nI 12))) S (cnF S k wh) S := by
  refine entX (cc := cX3_corner) (maxL := 3) (ret := (some .float)) (by decide) rfl (Nat.le_of_ble_eq_true rfl) ?_
  intro p e s m below meth c ls C hw hT hS hte hl
  obtain ⟨hx, hb, hr, hml, hown, hts, hlk⟩ := C
  have hz1 := hw.2.2.2.2.1
  have hz2 := hw.2.2.2.2.2
  have hl : lv_has ls 3 [(0, .ref (g_ad G 0 0)), (1, .int k), (2, .int wh)] := hl
  refine lv_aload_n hx hb dX3_corner_0 rfl (lv_at hl 0 rfl) ?_
  refine lv_iload_n hx hb dX3_corner_1 rfl (lv_at hl 1 rfl) ?_
  refine xVv ⟨hx, hb, hml, hown, hts⟩ (c_requireThere l G S hl0 k) (cwV 1 hts gX3_corner_X3_requireThere rfl rfl rfl (by decide +kernel) ⟨(Nat.le_of_ble_eq_true rfl), (Nat.le_of_ble_eq_true rfl)⟩) hw hT hS (rcv hw hT 0 0 (by decide) rfl rfl) (As := [.int k]) (rest := []) rfl hl.1 rfl (Nat.le_of_ble_eq_true rfl) dX3_corner_2 ⟨(Nat.le_of_ble_eq_true rfl), (Nat.le_of_ble_eq_true rfl)⟩ (fun E ce q9 H locs h1 hw hS hce hcv hcl => ?_) (fun H locs h1 hw hS => ?_)
  · skip
    exact xo hte hlk (or_s h1) hw hS hce hcv hcl (Nat.le_of_ble_eq_true rfl) (Nat.le_of_ble_eq_true rfl)
  obtain ⟨kn, hkn, rfl, tkn⟩ := there_n h1
  refine lv_iload_n hx hb dX3_corner_5 rfl (lv_at hl 2 rfl) ?_
  refine lv_if_lt (tgt := 15) hx hb dX3_corner_6 (by decide) (fun h2 => ?_) (fun h2 => ?_)
  · skip
    exact thrI hx hb hl0 hown hts hlk hml hl.1 hw hT hS hte (or_n h1 (by simp [whX, h2])) (List.mem_of_getElem? (i := 1) rfl) (List.mem_of_getElem? (i := 2) rfl) (fun _ h => List.mem_cons_of_mem _ (List.mem_append_right _ h)) (List.mem_of_getElem? (i := 3) rfl) hS.1 dX3_corner_15 dX3_corner_18 dX3_corner_19 dX3_corner_21 dX3_corner_24 (Nat.le_of_ble_eq_true rfl) (Nat.le_of_ble_eq_true rfl) (Nat.le_of_ble_eq_true rfl) (Nat.le_of_ble_eq_true rfl) (Nat.le_of_ble_eq_true rfl) (Nat.le_of_ble_eq_true rfl) hz1 hz2
  · skip
    refine lv_iload_n hx hb dX3_corner_9 rfl (lv_at hl 2 rfl) ?_
    refine lv_bipush (v := nI 12) hx hb dX3_corner_10 (by decide) ?_
    refine lv_icmp_lt (tgt := 25) hx hb dX3_corner_12 (by decide) (fun h3 => ?_) (fun h3 => ?_)
    · skip
      obtain ⟨wn, hwn, rfl⟩ := nat_of (by decide) h2 h3
      refine lv_iload_n hx hb dX3_corner_25 rfl (lv_at hl 2 rfl) ?_
      refine lv_bipush (v := nI 6) hx hb dX3_corner_26 (by decide) ?_
      refine lv_icmp_ge (tgt := 46) hx hb dX3_corner_28 (by decide) (fun h4 => ?_) (fun h4 => ?_)
      · skip
        have h4 : 6 ≤ wn := (nI_leI (by omega) (by omega)).mp h4
        refine lv_aload_n hx hb dX3_corner_46 rfl (lv_at hl 0 rfl) ?_
        refine gf hx hb hown hts hw hT 0 0 (by decide) (ci := 3) rfl rfl (fun _ h => List.mem_cons_of_mem _ (List.mem_append_left _ (List.mem_append_left _ (List.mem_append_left _ (List.mem_append_right _ h))))) 1 (by decide) (List.mem_of_getElem? (i := 3) rfl) (v := .ref (g_ad G 3 0)) rfl dX3_corner_47 ?_
        refine lv_iload_n hx hb dX3_corner_50 rfl (lv_at hl 1 rfl) ?_
        refine abl hx hb hw hT kn (show kn < 512 by omega) dX3_corner_51 ?_
        refine gf hx hb hown hts hw hT 4 kn (show kn < 512 by omega) (ci := 0) rfl rfl (fun _ h => List.mem_cons_of_mem _ (List.mem_append_left _ (List.mem_append_left _ (List.mem_append_right _ h)))) 0 (by decide) (List.mem_of_getElem? (i := 6) rfl) (v := .ref (g_ad G 1 (2 * kn + 2))) rfl dX3_corner_52 ?_
        refine gf hx hb hown hts hw hT 1 (2 * kn + 2) (show 2 * kn + 2 < 1026 by omega) (ci := 1) rfl rfl (fun _ h => List.mem_cons_of_mem _ (List.mem_append_left _ (List.mem_append_right _ h))) 0 (by decide) (List.mem_of_getElem? (i := 5) rfl) (v := .ref (g_ad G 2 (2 * kn + 2))) rfl dX3_corner_55 ?_
        refine lv_iload_n hx hb dX3_corner_58 rfl (lv_at hl 2 rfl) ?_
        refine lv_bipush (v := nI 6) hx hb dX3_corner_59 (by decide) ?_
        refine lv_isub hx hb dX3_corner_61 ?_
        refine top_i (y := nI (wn - 6)) (pk_sub (by omega)) ?_
        refine afl hx hb hw hT 2 (2 * kn + 2) (show 2 * kn + 2 < 1026 by omega) (f := bxS S (2 * kn + 2)) rfl (wn - 6) (show wn - 6 < 6 by omega) (by decide) dX3_corner_62 ?_
        exact rfx hx hb hlk hr hw hS (or_n h1 (by unfold whX; rw [if_neg (nI_pos (by omega)), if_pos (nI_lt (by omega) (by decide))])) (by unfold cnF; rw [if_neg (nI_nlt (by omega) (by omega)), kN_nI (show kn < 65536 by omega), kN_nI (show wn < 65536 by omega)]) (Nat.le_of_ble_eq_true rfl) (Nat.le_of_ble_eq_true rfl) dX3_corner_63
      · skip
        have h4 : ¬ 6 ≤ wn := fun z => h4 ((nI_leI (by omega) (by omega)).mpr z)
        refine lv_aload_n hx hb dX3_corner_31 rfl (lv_at hl 0 rfl) ?_
        refine gf hx hb hown hts hw hT 0 0 (by decide) (ci := 3) rfl rfl (fun _ h => List.mem_cons_of_mem _ (List.mem_append_left _ (List.mem_append_left _ (List.mem_append_left _ (List.mem_append_right _ h))))) 1 (by decide) (List.mem_of_getElem? (i := 3) rfl) (v := .ref (g_ad G 3 0)) rfl dX3_corner_32 ?_
        refine lv_iload_n hx hb dX3_corner_35 rfl (lv_at hl 1 rfl) ?_
        refine abl hx hb hw hT kn (show kn < 512 by omega) dX3_corner_36 ?_
        refine gf hx hb hown hts hw hT 4 kn (show kn < 512 by omega) (ci := 0) rfl rfl (fun _ h => List.mem_cons_of_mem _ (List.mem_append_left _ (List.mem_append_left _ (List.mem_append_right _ h)))) 1 (by decide) (List.mem_of_getElem? (i := 4) rfl) (v := .ref (g_ad G 1 (2 * kn + 3))) rfl dX3_corner_37 ?_
        refine gf hx hb hown hts hw hT 1 (2 * kn + 3) (show 2 * kn + 3 < 1026 by omega) (ci := 1) rfl rfl (fun _ h => List.mem_cons_of_mem _ (List.mem_append_left _ (List.mem_append_right _ h))) 0 (by decide) (List.mem_of_getElem? (i := 5) rfl) (v := .ref (g_ad G 2 (2 * kn + 3))) rfl dX3_corner_40 ?_
        refine lv_iload_n hx hb dX3_corner_43 rfl (lv_at hl 2 rfl) ?_
        refine afl hx hb hw hT 2 (2 * kn + 3) (show 2 * kn + 3 < 1026 by omega) (f := bxS S (2 * kn + 3)) rfl wn (show wn < 6 by omega) (by decide) dX3_corner_44 ?_
        exact rfx hx hb hlk hr hw hS (or_n h1 (by unfold whX; rw [if_neg (nI_pos (by omega)), if_pos (nI_lt (by omega) (by decide))])) (by unfold cnF; rw [if_pos (nI_lt (by omega) (by decide)), kN_nI (show kn < 65536 by omega), kN_nI (show wn < 65536 by omega)]) (Nat.le_of_ble_eq_true rfl) (Nat.le_of_ble_eq_true rfl) dX3_corner_45
    · skip
      exact thrI hx hb hl0 hown hts hlk hml hl.1 hw hT hS hte (or_n h1 (by simp [whX, h2, h3])) (List.mem_of_getElem? (i := 1) rfl) (List.mem_of_getElem? (i := 2) rfl) (fun _ h => List.mem_cons_of_mem _ (List.mem_append_right _ h)) (List.mem_of_getElem? (i := 3) rfl) hS.1 dX3_corner_15 dX3_corner_18 dX3_corner_19 dX3_corner_21 dX3_corner_24 (Nat.le_of_ble_eq_true rfl) (Nat.le_of_ble_eq_true rfl) (Nat.le_of_ble_eq_true rfl) (Nat.le_of_ble_eq_true rfl) (Nat.le_of_ble_eq_true rfl) (Nat.le_of_ble_eq_true rfl) hz1 hz2
def abF (S : St) (k wh : Int32) : Int32 := if wh = nI 0 then grS S (kN k) else if wh = nI 1 then mkS S (kN k) else if wh = nI 2 then nI (ctB (apB S (kN k)) 512) else bI (tcS S (kN k))
def coF (S : St) (wh : Int32) : Int32 := if wh = nI 0 then nfS S 0 else if wh = nI 1 then psS S (ipS S).1 else if wh = nI 2 then psS S 2 else if wh = nI 3 then psS S 3 else if wh = nI 4 then nfS S 1 else if wh = nI 5 then nI (ctB (tcS S) 512) else nfS S 2
set_option maxRecDepth 100000 in
set_option maxHeartbeats 1000000 in
theorem c_about (l : Launch) (G : Gm) (S : St) (hl0 : l.stackTraces = false) (hi1 : (ipS S).1 < 4) (hi2 : (ipS S).2 < 4) (k wh : Int32) : Ti l yX3_about wsX3_about ({ frames := 7, cells := 2, slots := 12, locals := 103 } : Room) [.ref (g_ad G 0 0), .int k, .int wh] G S (orX (thereX S k) (whX wh (nI 4))) S (abF S k wh) S := by
  refine entX (cc := cX3_about) (maxL := 3) (ret := (some .int)) (by decide) rfl (Nat.le_of_ble_eq_true rfl) ?_
  intro p e s m below meth c ls C hw hT hS hte hl
  obtain ⟨hx, hb, hr, hml, hown, hts, hlk⟩ := C
  have hz1 := hw.2.2.2.2.1
  have hz2 := hw.2.2.2.2.2
  have hl : lv_has ls 3 [(0, .ref (g_ad G 0 0)), (1, .int k), (2, .int wh)] := hl
  refine lv_aload_n hx hb dX3_about_0 rfl (lv_at hl 0 rfl) ?_
  refine lv_iload_n hx hb dX3_about_1 rfl (lv_at hl 1 rfl) ?_
  refine xVv ⟨hx, hb, hml, hown, hts⟩ (c_requireThere l G S hl0 k) (cwV 1 hts gX3_about_X3_requireThere rfl rfl rfl (by decide +kernel) ⟨(Nat.le_of_ble_eq_true rfl), (Nat.le_of_ble_eq_true rfl)⟩) hw hT hS (rcv hw hT 0 0 (by decide) rfl rfl) (As := [.int k]) (rest := []) rfl hl.1 rfl (Nat.le_of_ble_eq_true rfl) dX3_about_2 ⟨(Nat.le_of_ble_eq_true rfl), (Nat.le_of_ble_eq_true rfl)⟩ (fun E ce q9 H locs h1 hw hS hce hcv hcl => ?_) (fun H locs h1 hw hS => ?_)
  · skip
    exact xo hte hlk (or_s h1) hw hS hce hcv hcl (Nat.le_of_ble_eq_true rfl) (Nat.le_of_ble_eq_true rfl)
  obtain ⟨kn, hkn, rfl, tkn⟩ := there_n h1
  refine lv_iload_n hx hb dX3_about_5 rfl (lv_at hl 2 rfl) ?_
  by_cases h2 : wh = nI 0
  · skip
    subst h2
    refine lv_tableIn (off := 30) (tgt := 36) hx hb dX3_about_6 (by decide) (by decide) (by decide) (by decide) ?_
    refine lv_aload_n hx hb dX3_about_36 rfl (lv_at hl 0 rfl) ?_
    refine gf hx hb hown hts hw hT 0 0 (by decide) (ci := 3) rfl rfl (fun _ h => List.mem_cons_of_mem _ (List.mem_append_left _ (List.mem_append_left _ (List.mem_append_left _ (List.mem_append_right _ h))))) 1 (by decide) (List.mem_of_getElem? (i := 3) rfl) (v := .ref (g_ad G 3 0)) rfl dX3_about_37 ?_
    refine lv_iload_n hx hb dX3_about_40 rfl (lv_at hl 1 rfl) ?_
    refine abl hx hb hw hT kn (show kn < 512 by omega) dX3_about_41 ?_
    refine gf hx hb hown hts hw hT 4 kn (show kn < 512 by omega) (ci := 0) rfl rfl (fun _ h => List.mem_cons_of_mem _ (List.mem_append_left _ (List.mem_append_left _ (List.mem_append_right _ h)))) 2 (by decide) (List.mem_of_getElem? (i := 4) rfl) (v := .int (grS S kn)) rfl dX3_about_42 ?_
    exact rix hx hb hlk hr hw hS (or_n h1 (by decide)) (by unfold abF; rw [if_pos (show nI 0 = nI 0 from rfl), kN_nI (show kn < 65536 by omega)]) (vp_nar_int _) (Nat.le_of_ble_eq_true rfl) (Nat.le_of_ble_eq_true rfl) dX3_about_45
  by_cases h3 : wh = nI 1
  · skip
    subst h3
    refine lv_tableIn (off := 40) (tgt := 46) hx hb dX3_about_6 (by decide) (by decide) (by decide) (by decide) ?_
    refine lv_aload_n hx hb dX3_about_46 rfl (lv_at hl 0 rfl) ?_
    refine gf hx hb hown hts hw hT 0 0 (by decide) (ci := 3) rfl rfl (fun _ h => List.mem_cons_of_mem _ (List.mem_append_left _ (List.mem_append_left _ (List.mem_append_left _ (List.mem_append_right _ h))))) 1 (by decide) (List.mem_of_getElem? (i := 3) rfl) (v := .ref (g_ad G 3 0)) rfl dX3_about_47 ?_
    refine lv_iload_n hx hb dX3_about_50 rfl (lv_at hl 1 rfl) ?_
    refine abl hx hb hw hT kn (show kn < 512 by omega) dX3_about_51 ?_
    refine gf hx hb hown hts hw hT 4 kn (show kn < 512 by omega) (ci := 0) rfl rfl (fun _ h => List.mem_cons_of_mem _ (List.mem_append_left _ (List.mem_append_left _ (List.mem_append_right _ h)))) 3 (by decide) (List.mem_of_getElem? (i := 5) rfl) (v := .int (mkS S kn)) rfl dX3_about_52 ?_
    exact rix hx hb hlk hr hw hS (or_n h1 (by decide)) (by unfold abF; rw [if_neg (show ¬ nI 1 = nI 0 by decide), if_pos (show nI 1 = nI 1 from rfl), kN_nI (show kn < 65536 by omega)]) (vp_nar_int _) (Nat.le_of_ble_eq_true rfl) (Nat.le_of_ble_eq_true rfl) dX3_about_55
  by_cases h4 : wh = nI 2
  · skip
    subst h4
    refine lv_tableIn (off := 50) (tgt := 56) hx hb dX3_about_6 (by decide) (by decide) (by decide) (by decide) ?_
    refine lv_aload_n hx hb dX3_about_56 rfl (lv_at hl 0 rfl) ?_
    refine lv_iload_n hx hb dX3_about_57 rfl (lv_at hl 1 rfl) ?_
    refine cVi ⟨hx, hb, hml, hown, hts⟩ (c_pairsOf l G S (by omega) (by omega) kn (by omega)) (cwV 1 hts gX3_about_X3_pairsOf rfl rfl rfl (by decide +kernel) ⟨(Nat.le_of_ble_eq_true rfl), (Nat.le_of_ble_eq_true rfl)⟩) hw hT hS (rcv hw hT 0 0 (by decide) rfl rfl) (As := [.int (nI kn)]) (rest := []) rfl hl.1 rfl (Nat.le_of_ble_eq_true rfl) dX3_about_58 ⟨(Nat.le_of_ble_eq_true rfl), (Nat.le_of_ble_eq_true rfl)⟩ (fun H locs hw hS => ?_)
    exact rix hx hb hlk hr hw hS (or_n h1 (by decide)) (by unfold abF; rw [if_neg (show ¬ nI 2 = nI 0 by decide), if_neg (show ¬ nI 2 = nI 1 by decide), if_pos (show nI 2 = nI 2 from rfl), kN_nI (show kn < 65536 by omega)]) (vp_nar_int _) (Nat.le_of_ble_eq_true rfl) (Nat.le_of_ble_eq_true rfl) dX3_about_61
  by_cases h5 : wh = nI 3
  · skip
    subst h5
    refine lv_tableIn (off := 56) (tgt := 62) hx hb dX3_about_6 (by decide) (by decide) (by decide) (by decide) ?_
    refine lv_aload_n hx hb dX3_about_62 rfl (lv_at hl 0 rfl) ?_
    refine gf hx hb hown hts hw hT 0 0 (by decide) (ci := 3) rfl rfl (fun _ h => List.mem_cons_of_mem _ (List.mem_append_left _ (List.mem_append_left _ (List.mem_append_left _ (List.mem_append_right _ h))))) 1 (by decide) (List.mem_of_getElem? (i := 3) rfl) (v := .ref (g_ad G 3 0)) rfl dX3_about_63 ?_
    refine lv_iload_n hx hb dX3_about_66 rfl (lv_at hl 1 rfl) ?_
    refine abl hx hb hw hT kn (show kn < 512 by omega) dX3_about_67 ?_
    refine gf hx hb hown hts hw hT 4 kn (show kn < 512 by omega) (ci := 0) rfl rfl (fun _ h => List.mem_cons_of_mem _ (List.mem_append_left _ (List.mem_append_left _ (List.mem_append_right _ h)))) 5 (by decide) (List.mem_of_getElem? (i := 6) rfl) (v := .int (bI (tcS S kn))) rfl dX3_about_68 ?_
    refine lv_if_eq (tgt := 78) hx hb dX3_about_71 (by decide) (fun h6 => ?_) (fun h6 => ?_)
    · skip
      have h6 := bI_0.mp h6
      refine lv_iconst (v := nI 0) hx hb dX3_about_78 (by decide) ?_
      exact rix hx hb hlk hr hw hS (or_n h1 (by decide)) (by unfold abF; rw [if_neg (show ¬ nI 3 = nI 0 by decide), if_neg (show ¬ nI 3 = nI 1 by decide), if_neg (show ¬ nI 3 = nI 2 by decide), kN_nI (show kn < 65536 by omega)]; rw [h6]; rfl) (vp_nar_int _) (Nat.le_of_ble_eq_true rfl) (Nat.le_of_ble_eq_true rfl) dX3_about_79
    · skip
      have h6 := bI_n0.mp h6
      refine lv_iconst (v := nI 1) hx hb dX3_about_74 (by decide) ?_
      refine lv_goto (tgt := 79) hx hb dX3_about_75 (by decide) ?_
      exact rix hx hb hlk hr hw hS (or_n h1 (by decide)) (by unfold abF; rw [if_neg (show ¬ nI 3 = nI 0 by decide), if_neg (show ¬ nI 3 = nI 1 by decide), if_neg (show ¬ nI 3 = nI 2 by decide), kN_nI (show kn < 65536 by omega)]; rw [h6]; rfl) (vp_nar_int _) (Nat.le_of_ble_eq_true rfl) (Nat.le_of_ble_eq_true rfl) dX3_about_79
  have h7 := sw_out (n := 4) (x := wh) (by decide) (fun j hj => by rcases sw_4 hj with rfl | rfl | rfl | rfl <;> assumption)
  refine lv_tableOut (tgt := 80) hx hb dX3_about_6 h7 (by decide) ?_
  exact thrI hx hb hl0 hown hts hlk hml hl.1 hw hT hS hte (or_n h1 (wh_out (by decide) h7)) (List.mem_of_getElem? (i := 1) rfl) (List.mem_of_getElem? (i := 2) rfl) (fun _ h => List.mem_cons_of_mem _ (List.mem_append_right _ h)) (List.mem_of_getElem? (i := 4) rfl) hS.1 dX3_about_80 dX3_about_83 dX3_about_84 dX3_about_86 dX3_about_89 (Nat.le_of_ble_eq_true rfl) (Nat.le_of_ble_eq_true rfl) (Nat.le_of_ble_eq_true rfl) (Nat.le_of_ble_eq_true rfl) (Nat.le_of_ble_eq_true rfl) (Nat.le_of_ble_eq_true rfl) hz1 hz2
set_option maxRecDepth 100000 in
set_option maxHeartbeats 1000000 in
theorem c_count (l : Launch) (G : Gm) (S : St) (hl0 : l.stackTraces = false) (hi1 : (ipS S).1 < 4) (hi2 : (ipS S).2 < 4) (wh : Int32) : Ti l yX3_count wsX3_count ({ frames := 6, cells := 1, slots := 6, locals := 82 } : Room) [.ref (g_ad G 0 0), .int wh] G S (whX wh (nI 7)) S (coF S wh) S := by
  refine entX (cc := cX3_count) (maxL := 2) (ret := (some .int)) (by decide) rfl (Nat.le_of_ble_eq_true rfl) ?_
  intro p e s m below meth c ls C hw hT hS hte hl
  obtain ⟨hx, hb, hr, hml, hown, hts, hlk⟩ := C
  have hz1 := hw.2.2.2.2.1
  have hz2 := hw.2.2.2.2.2
  have hl : lv_has ls 2 [(0, .ref (g_ad G 0 0)), (1, .int wh)] := hl
  refine lv_iload_n hx hb dX3_count_0 rfl (lv_at hl 1 rfl) ?_
  by_cases h1 : wh = nI 0
  · skip
    subst h1
    refine lv_tableIn (off := 43) (tgt := 44) hx hb dX3_count_1 (by decide) (by decide) (by decide) (by decide) ?_
    refine lv_aload_n hx hb dX3_count_44 rfl (lv_at hl 0 rfl) ?_
    refine gf hx hb hown hts hw hT 0 0 (by decide) (ci := 3) rfl rfl (fun _ h => List.mem_cons_of_mem _ (List.mem_append_left _ (List.mem_append_left _ (List.mem_append_left _ (List.mem_append_right _ h))))) 2 (by decide) (List.mem_of_getElem? (i := 3) rfl) (v := .int (nfS S 0)) rfl dX3_count_45 ?_
    exact rix hx hb hlk hr hw hS (by decide) (by unfold coF; rw [if_pos (show nI 0 = nI 0 from rfl)]) (vp_nar_int _) (Nat.le_of_ble_eq_true rfl) (Nat.le_of_ble_eq_true rfl) dX3_count_48
  by_cases h2 : wh = nI 1
  · skip
    subst h2
    refine lv_tableIn (off := 48) (tgt := 49) hx hb dX3_count_1 (by decide) (by decide) (by decide) (by decide) ?_
    refine lv_aload_n hx hb dX3_count_49 rfl (lv_at hl 0 rfl) ?_
    refine gf hx hb hown hts hw hT 0 0 (by decide) (ci := 3) rfl rfl (fun _ h => List.mem_cons_of_mem _ (List.mem_append_left _ (List.mem_append_left _ (List.mem_append_left _ (List.mem_append_right _ h))))) 3 (by decide) (List.mem_of_getElem? (i := 4) rfl) (v := .ref (g_ad G 5 ((ipS S).1))) rfl dX3_count_50 ?_
    refine gf hx hb hown hts hw hT 5 ((ipS S).1) (show (ipS S).1 < 4 by omega) (ci := 2) rfl rfl (fun _ h => List.mem_cons_of_mem _ (List.mem_append_left _ (List.mem_append_left _ (List.mem_append_right _ h)))) 1 (by decide) (List.mem_of_getElem? (i := 5) rfl) (v := .int (psS S ((ipS S).1))) rfl dX3_count_53 ?_
    exact rix hx hb hlk hr hw hS (by decide) (by unfold coF; rw [if_neg (show ¬ nI 1 = nI 0 by decide), if_pos (show nI 1 = nI 1 from rfl)]) (vp_nar_int _) (Nat.le_of_ble_eq_true rfl) (Nat.le_of_ble_eq_true rfl) dX3_count_56
  by_cases h3 : wh = nI 2
  · skip
    subst h3
    refine lv_tableIn (off := 56) (tgt := 57) hx hb dX3_count_1 (by decide) (by decide) (by decide) (by decide) ?_
    refine lv_aload_n hx hb dX3_count_57 rfl (lv_at hl 0 rfl) ?_
    refine gf hx hb hown hts hw hT 0 0 (by decide) (ci := 3) rfl rfl (fun _ h => List.mem_cons_of_mem _ (List.mem_append_left _ (List.mem_append_left _ (List.mem_append_left _ (List.mem_append_right _ h))))) 5 (by decide) (List.mem_of_getElem? (i := 6) rfl) (v := .ref (g_ad G 5 2)) rfl dX3_count_58 ?_
    refine gf hx hb hown hts hw hT 5 2 (by decide) (ci := 2) rfl rfl (fun _ h => List.mem_cons_of_mem _ (List.mem_append_left _ (List.mem_append_left _ (List.mem_append_right _ h)))) 1 (by decide) (List.mem_of_getElem? (i := 5) rfl) (v := .int (psS S 2)) rfl dX3_count_61 ?_
    exact rix hx hb hlk hr hw hS (by decide) (by unfold coF; rw [if_neg (show ¬ nI 2 = nI 0 by decide), if_neg (show ¬ nI 2 = nI 1 by decide), if_pos (show nI 2 = nI 2 from rfl)]) (vp_nar_int _) (Nat.le_of_ble_eq_true rfl) (Nat.le_of_ble_eq_true rfl) dX3_count_64
  by_cases h4 : wh = nI 3
  · skip
    subst h4
    refine lv_tableIn (off := 64) (tgt := 65) hx hb dX3_count_1 (by decide) (by decide) (by decide) (by decide) ?_
    refine lv_aload_n hx hb dX3_count_65 rfl (lv_at hl 0 rfl) ?_
    refine gf hx hb hown hts hw hT 0 0 (by decide) (ci := 3) rfl rfl (fun _ h => List.mem_cons_of_mem _ (List.mem_append_left _ (List.mem_append_left _ (List.mem_append_left _ (List.mem_append_right _ h))))) 6 (by decide) (List.mem_of_getElem? (i := 7) rfl) (v := .ref (g_ad G 5 3)) rfl dX3_count_66 ?_
    refine gf hx hb hown hts hw hT 5 3 (by decide) (ci := 2) rfl rfl (fun _ h => List.mem_cons_of_mem _ (List.mem_append_left _ (List.mem_append_left _ (List.mem_append_right _ h)))) 1 (by decide) (List.mem_of_getElem? (i := 5) rfl) (v := .int (psS S 3)) rfl dX3_count_69 ?_
    exact rix hx hb hlk hr hw hS (by decide) (by unfold coF; rw [if_neg (show ¬ nI 3 = nI 0 by decide), if_neg (show ¬ nI 3 = nI 1 by decide), if_neg (show ¬ nI 3 = nI 2 by decide), if_pos (show nI 3 = nI 3 from rfl)]) (vp_nar_int _) (Nat.le_of_ble_eq_true rfl) (Nat.le_of_ble_eq_true rfl) dX3_count_72
  by_cases h5 : wh = nI 4
  · skip
    subst h5
    refine lv_tableIn (off := 72) (tgt := 73) hx hb dX3_count_1 (by decide) (by decide) (by decide) (by decide) ?_
    refine lv_aload_n hx hb dX3_count_73 rfl (lv_at hl 0 rfl) ?_
    refine gf hx hb hown hts hw hT 0 0 (by decide) (ci := 3) rfl rfl (fun _ h => List.mem_cons_of_mem _ (List.mem_append_left _ (List.mem_append_left _ (List.mem_append_left _ (List.mem_append_right _ h))))) 7 (by decide) (List.mem_of_getElem? (i := 8) rfl) (v := .int (nfS S 1)) rfl dX3_count_74 ?_
    exact rix hx hb hlk hr hw hS (by decide) (by unfold coF; rw [if_neg (show ¬ nI 4 = nI 0 by decide), if_neg (show ¬ nI 4 = nI 1 by decide), if_neg (show ¬ nI 4 = nI 2 by decide), if_neg (show ¬ nI 4 = nI 3 by decide), if_pos (show nI 4 = nI 4 from rfl)]) (vp_nar_int _) (Nat.le_of_ble_eq_true rfl) (Nat.le_of_ble_eq_true rfl) dX3_count_77
  by_cases h6 : wh = nI 5
  · skip
    subst h6
    refine lv_tableIn (off := 77) (tgt := 78) hx hb dX3_count_1 (by decide) (by decide) (by decide) (by decide) ?_
    refine lv_aload_n hx hb dX3_count_78 rfl (lv_at hl 0 rfl) ?_
    refine cVi ⟨hx, hb, hml, hown, hts⟩ (c_touchedBodies l G S) (cwV 0 hts gX3_count_X3_touchedBodies rfl rfl rfl (by decide +kernel) ⟨(Nat.le_of_ble_eq_true rfl), (Nat.le_of_ble_eq_true rfl)⟩) hw hT hS (rcv hw hT 0 0 (by decide) rfl rfl) (As := []) (rest := []) rfl hl.1 rfl (Nat.le_of_ble_eq_true rfl) dX3_count_79 ⟨(Nat.le_of_ble_eq_true rfl), (Nat.le_of_ble_eq_true rfl)⟩ (fun H locs hw hS => ?_)
    exact rix hx hb hlk hr hw hS (by decide) (by unfold coF; rw [if_neg (show ¬ nI 5 = nI 0 by decide), if_neg (show ¬ nI 5 = nI 1 by decide), if_neg (show ¬ nI 5 = nI 2 by decide), if_neg (show ¬ nI 5 = nI 3 by decide), if_neg (show ¬ nI 5 = nI 4 by decide), if_pos (show nI 5 = nI 5 from rfl)]) (vp_nar_int _) (Nat.le_of_ble_eq_true rfl) (Nat.le_of_ble_eq_true rfl) dX3_count_82
  by_cases h7 : wh = nI 6
  · skip
    subst h7
    refine lv_tableIn (off := 82) (tgt := 83) hx hb dX3_count_1 (by decide) (by decide) (by decide) (by decide) ?_
    refine lv_aload_n hx hb dX3_count_83 rfl (lv_at hl 0 rfl) ?_
    refine gf hx hb hown hts hw hT 0 0 (by decide) (ci := 3) rfl rfl (fun _ h => List.mem_cons_of_mem _ (List.mem_append_left _ (List.mem_append_left _ (List.mem_append_left _ (List.mem_append_right _ h))))) 10 (by decide) (List.mem_of_getElem? (i := 9) rfl) (v := .int (nfS S 2)) rfl dX3_count_84 ?_
    exact rix hx hb hlk hr hw hS (by decide) (by unfold coF; rw [if_neg (show ¬ nI 6 = nI 0 by decide), if_neg (show ¬ nI 6 = nI 1 by decide), if_neg (show ¬ nI 6 = nI 2 by decide), if_neg (show ¬ nI 6 = nI 3 by decide), if_neg (show ¬ nI 6 = nI 4 by decide), if_neg (show ¬ nI 6 = nI 5 by decide)]) (vp_nar_int _) (Nat.le_of_ble_eq_true rfl) (Nat.le_of_ble_eq_true rfl) dX3_count_87
  have h8 := sw_out (n := 7) (x := wh) (by decide) (fun j hj => by rcases sw_7 hj with rfl | rfl | rfl | rfl | rfl | rfl | rfl <;> assumption)
  refine lv_tableOut (tgt := 88) hx hb dX3_count_1 h8 (by decide) ?_
  exact thrI hx hb hl0 hown hts hlk hml hl.1 hw hT hS hte (wh_out (by decide) h8) (List.mem_of_getElem? (i := 1) rfl) (List.mem_of_getElem? (i := 2) rfl) (fun _ h => List.mem_cons_of_mem _ (List.mem_append_right _ h)) (List.mem_of_getElem? (i := 5) rfl) hS.1 dX3_count_88 dX3_count_91 dX3_count_92 dX3_count_94 dX3_count_97 (Nat.le_of_ble_eq_true rfl) (Nat.le_of_ble_eq_true rfl) (Nat.le_of_ble_eq_true rfl) (Nat.le_of_ble_eq_true rfl) (Nat.le_of_ble_eq_true rfl) (Nat.le_of_ble_eq_true rfl) hz1 hz2
