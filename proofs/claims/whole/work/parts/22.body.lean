/-! Body -/
set_option maxRecDepth 100000 in
set_option maxHeartbeats 1000000 in
theorem c_leave (l : Launch) (G : Gm) (S : St) (k : Nat) (hk : k < 512) : Pv l yX0_leave wsX0_leave ({ frames := 0, cells := 0, slots := 0, locals := 0 } : Room) [.ref (g_ad G 4 k)] G S (lvS S k) := by
  refine ent (cc := cX0_leave) (maxL := 1) (ret := none) (by decide) rfl (Nat.le_of_ble_eq_true rfl) ?_
  intro p e s m below meth c ls C hw hT hS hl
  obtain ⟨hx, hb, hr, hml, hown, hts, hlk⟩ := C
  have hl : lv_has ls 1 [(0, .ref (g_ad G 4 k))] := hl
  refine lv_aload_n hx hb dX0_leave_0 rfl (lv_at hl 0 rfl) ?_
  refine lv_iconst (v := nI 0) hx hb dX0_leave_1 (by decide) ?_
  refine top_i (y := bI false) (by decide) ?_
  refine pf (S' := (thU S (va_up (thS S) k false))) hx hb hown hts hw hT hS 4 k (show k < 512 by omega) (ci := 0) rfl rfl (fun _ h => List.mem_cons_of_mem _ (List.mem_append_right _ h)) tyX0 tyX0_ok nmX0 4 (by decide) (List.mem_of_getElem? (i := 1) rfl) rfl (ty := .boolean) (by decide +kernel) (bI_nar _) (bI_fit _) (Nat.le_of_ble_eq_true rfl) (mup_th G S k false) dX0_leave_2 (fun H locs hw hS => ?_)
  refine lv_aload_n hx hb dX0_leave_5 rfl (lv_at hl 0 rfl) ?_
  refine lv_iconst (v := nI 0) hx hb dX0_leave_6 (by decide) ?_
  refine top_i (y := bI false) (by decide) ?_
  refine pf (S' := (tcU (thU S (va_up (thS S) k false)) (va_up (tcS (thU S (va_up (thS S) k false))) k false))) hx hb hown hts hw hT hS 4 k (show k < 512 by omega) (ci := 0) rfl rfl (fun _ h => List.mem_cons_of_mem _ (List.mem_append_right _ h)) tyX0 tyX0_ok nmX0 5 (by decide) (List.mem_of_getElem? (i := 2) rfl) rfl (ty := .boolean) (by decide +kernel) (bI_nar _) (bI_fit _) (Nat.le_of_ble_eq_true rfl) (mup_tc G (thU S (va_up (thS S) k false)) k false) dX0_leave_7 (fun H locs hw hS => ?_)
  exact rv hx hb hlk hr hw hS  (Nat.le_of_ble_eq_true rfl) (Nat.le_of_ble_eq_true rfl) dX0_leave_10
set_option maxRecDepth 100000 in
set_option maxHeartbeats 1000000 in
theorem c_setFilter (l : Launch) (G : Gm) (S : St) (k : Nat) (hk : k < 512) (g9 m9 : Int32) : Pv l yX0_setFilter wsX0_setFilter ({ frames := 0, cells := 0, slots := 0, locals := 0 } : Room) [.ref (g_ad G 4 k), .int g9, .int m9] G S (flS S k g9 m9) := by
  refine ent (cc := cX0_setFilter) (maxL := 3) (ret := none) (by decide) rfl (Nat.le_of_ble_eq_true rfl) ?_
  intro p e s m below meth c ls C hw hT hS hl
  obtain ⟨hx, hb, hr, hml, hown, hts, hlk⟩ := C
  have hl : lv_has ls 3 [(0, .ref (g_ad G 4 k)), (1, .int g9), (2, .int m9)] := hl
  refine lv_aload_n hx hb dX0_setFilter_0 rfl (lv_at hl 0 rfl) ?_
  refine lv_iload_n hx hb dX0_setFilter_1 rfl (lv_at hl 1 rfl) ?_
  refine pf (S' := (grU S (va_up (grS S) k g9))) hx hb hown hts hw hT hS 4 k (show k < 512 by omega) (ci := 0) rfl rfl (fun _ h => List.mem_cons_of_mem _ (List.mem_append_right _ h)) tyX0 tyX0_ok nmX0 2 (by decide) (List.mem_of_getElem? (i := 1) rfl) rfl (ty := .int) (by decide +kernel) (vp_nar_int _) rfl (Nat.le_of_ble_eq_true rfl) (mup_gr G S k g9) dX0_setFilter_2 (fun H locs hw hS => ?_)
  refine lv_aload_n hx hb dX0_setFilter_5 rfl (lv_at hl 0 rfl) ?_
  refine lv_iload_n hx hb dX0_setFilter_6 rfl (lv_at hl 2 rfl) ?_
  refine pf (S' := (mkU (grU S (va_up (grS S) k g9)) (va_up (mkS (grU S (va_up (grS S) k g9))) k m9))) hx hb hown hts hw hT hS 4 k (show k < 512 by omega) (ci := 0) rfl rfl (fun _ h => List.mem_cons_of_mem _ (List.mem_append_right _ h)) tyX0 tyX0_ok nmX0 3 (by decide) (List.mem_of_getElem? (i := 2) rfl) rfl (ty := .int) (by decide +kernel) (vp_nar_int _) rfl (Nat.le_of_ble_eq_true rfl) (mup_mk G (grU S (va_up (grS S) k g9)) k m9) dX0_setFilter_7 (fun H locs hw hS => ?_)
  refine lv_aload_n hx hb dX0_setFilter_10 rfl (lv_at hl 0 rfl) ?_
  refine lv_iconst (v := nI 1) hx hb dX0_setFilter_11 (by decide) ?_
  refine top_i (y := bI true) (by decide) ?_
  refine pf (S' := (tcU (mkU (grU S (va_up (grS S) k g9)) (va_up (mkS (grU S (va_up (grS S) k g9))) k m9)) (va_up (tcS (mkU (grU S (va_up (grS S) k g9)) (va_up (mkS (grU S (va_up (grS S) k g9))) k m9))) k true))) hx hb hown hts hw hT hS 4 k (show k < 512 by omega) (ci := 0) rfl rfl (fun _ h => List.mem_cons_of_mem _ (List.mem_append_right _ h)) tyX0 tyX0_ok nmX0 5 (by decide) (List.mem_of_getElem? (i := 3) rfl) rfl (ty := .boolean) (by decide +kernel) (bI_nar _) (bI_fit _) (Nat.le_of_ble_eq_true rfl) (mup_tc G (mkU (grU S (va_up (grS S) k g9)) (va_up (mkS (grU S (va_up (grS S) k g9))) k m9)) k true) dX0_setFilter_12 (fun H locs hw hS => ?_)
  exact rv hx hb hlk hr hw hS  (Nat.le_of_ble_eq_true rfl) (Nat.le_of_ble_eq_true rfl) dX0_setFilter_15
set_option maxRecDepth 100000 in
set_option maxHeartbeats 1000000 in
theorem c_appear (l : Launch) (G : Gm) (S : St) (k : Nat) (hk : k < 512) (a : Nat) (ha : a < 1026) (h2 : a ≠ 2 * k + 2) (h3 : a ≠ 2 * k + 3) (g9 m9 : Int32) (hn : wdN (bxS (cpF6 (cpF6 (thU S (va_up (thS S) k true)) (2 * k + 2) a) (2 * k + 3) a) (2 * k + 3)) FP.fconst0 FP.fconst0 FP.fconst0) : Pv l yX0_appear wsX0_appear ({ frames := 2, cells := 0, slots := 0, locals := 81 } : Room) [.ref (g_ad G 4 k), .ref (g_ad G 1 a), .int g9, .int m9] G S (apS S k a g9 m9) := by
  refine ent (cc := cX0_appear) (maxL := 4) (ret := none) (by decide) rfl (Nat.le_of_ble_eq_true rfl) ?_
  intro p e s m below meth c ls C hw hT hS hl
  obtain ⟨hx, hb, hr, hml, hown, hts, hlk⟩ := C
  have hl : lv_has ls 4 [(0, .ref (g_ad G 4 k)), (1, .ref (g_ad G 1 a)), (2, .int g9), (3, .int m9)] := hl
  refine lv_aload_n hx hb dX0_appear_0 rfl (lv_at hl 0 rfl) ?_
  refine lv_iconst (v := nI 1) hx hb dX0_appear_1 (by decide) ?_
  refine top_i (y := bI true) (by decide) ?_
  refine pf (S' := (thU S (va_up (thS S) k true))) hx hb hown hts hw hT hS 4 k (show k < 512 by omega) (ci := 0) rfl rfl (fun _ h => List.mem_cons_of_mem _ (List.mem_append_left _ (List.mem_append_right _ h))) tyX0 tyX0_ok nmX0 4 (by decide) (List.mem_of_getElem? (i := 1) rfl) rfl (ty := .boolean) (by decide +kernel) (bI_nar _) (bI_fit _) (Nat.le_of_ble_eq_true rfl) (mup_th G S k true) dX0_appear_2 (fun H locs hw hS => ?_)
  refine lv_aload_n hx hb dX0_appear_5 rfl (lv_at hl 0 rfl) ?_
  refine gf hx hb hown hts hw hT 4 k (show k < 512 by omega) (ci := 0) rfl rfl (fun _ h => List.mem_cons_of_mem _ (List.mem_append_left _ (List.mem_append_right _ h))) 0 (by decide) (List.mem_of_getElem? (i := 2) rfl) (v := .ref (g_ad G 1 (2 * k + 2))) rfl dX0_appear_6 ?_
  refine lv_aload_n hx hb dX0_appear_9 rfl (lv_at hl 1 rfl) ?_
  refine cVv ⟨hx, hb, hml, hown, hts⟩ (c_copyFrom l G (thU S (va_up (thS S) k true)) (2 * k + 2) (show 2 * k + 2 < 1026 by omega) a (show a < 1026 by omega) h2) (cwV 1 hts gX0_appear_X1_copyFrom rfl rfl rfl (by decide +kernel) ⟨(Nat.le_of_ble_eq_true rfl), (Nat.le_of_ble_eq_true rfl)⟩) hw hT hS (rcv hw hT 1 (2 * k + 2) (show 2 * k + 2 < 1026 by omega) rfl rfl) (As := [.ref (g_ad G 1 a)]) (rest := []) rfl hl.1 rfl (Nat.le_of_ble_eq_true rfl) dX0_appear_10 ⟨(Nat.le_of_ble_eq_true rfl), (Nat.le_of_ble_eq_true rfl)⟩ (fun H locs hw hS => ?_)
  refine lv_aload_n hx hb dX0_appear_13 rfl (lv_at hl 0 rfl) ?_
  refine gf hx hb hown hts hw hT 4 k (show k < 512 by omega) (ci := 0) rfl rfl (fun _ h => List.mem_cons_of_mem _ (List.mem_append_left _ (List.mem_append_right _ h))) 1 (by decide) (List.mem_of_getElem? (i := 3) rfl) (v := .ref (g_ad G 1 (2 * k + 3))) rfl dX0_appear_14 ?_
  refine lv_aload_n hx hb dX0_appear_17 rfl (lv_at hl 1 rfl) ?_
  refine cVv ⟨hx, hb, hml, hown, hts⟩ (c_copyFrom l G (cpF6 (thU S (va_up (thS S) k true)) (2 * k + 2) a) (2 * k + 3) (show 2 * k + 3 < 1026 by omega) a (show a < 1026 by omega) h3) (cwV 1 hts gX0_appear_X1_copyFrom rfl rfl rfl (by decide +kernel) ⟨(Nat.le_of_ble_eq_true rfl), (Nat.le_of_ble_eq_true rfl)⟩) hw hT hS (rcv hw hT 1 (2 * k + 3) (show 2 * k + 3 < 1026 by omega) rfl rfl) (As := [.ref (g_ad G 1 a)]) (rest := []) rfl hl.1 rfl (Nat.le_of_ble_eq_true rfl) dX0_appear_18 ⟨(Nat.le_of_ble_eq_true rfl), (Nat.le_of_ble_eq_true rfl)⟩ (fun H locs hw hS => ?_)
  refine lv_aload_n hx hb dX0_appear_21 rfl (lv_at hl 0 rfl) ?_
  refine gf hx hb hown hts hw hT 4 k (show k < 512 by omega) (ci := 0) rfl rfl (fun _ h => List.mem_cons_of_mem _ (List.mem_append_left _ (List.mem_append_right _ h))) 1 (by decide) (List.mem_of_getElem? (i := 3) rfl) (v := .ref (g_ad G 1 (2 * k + 3))) rfl dX0_appear_22 ?_
  refine lv_fconst0 hx hb dX0_appear_25 ?_
  refine lv_fconst0 hx hb dX0_appear_26 ?_
  refine lv_fconst0 hx hb dX0_appear_27 ?_
  refine cVv ⟨hx, hb, hml, hown, hts⟩ (c_widen l G (cpF6 (cpF6 (thU S (va_up (thS S) k true)) (2 * k + 2) a) (2 * k + 3) a) (2 * k + 3) (show 2 * k + 3 < 1026 by omega) FP.fconst0 FP.fconst0 FP.fconst0 hn) (cwV 3 hts gX0_appear_X1_widen rfl rfl rfl (by decide +kernel) ⟨(Nat.le_of_ble_eq_true rfl), (Nat.le_of_ble_eq_true rfl)⟩) hw hT hS (rcv hw hT 1 (2 * k + 3) (show 2 * k + 3 < 1026 by omega) rfl rfl) (As := [.float FP.fconst0, .float FP.fconst0, .float FP.fconst0]) (rest := []) rfl hl.1 rfl (Nat.le_of_ble_eq_true rfl) dX0_appear_28 ⟨(Nat.le_of_ble_eq_true rfl), (Nat.le_of_ble_eq_true rfl)⟩ (fun H locs hw hS => ?_)
  refine lv_aload_n hx hb dX0_appear_31 rfl (lv_at hl 0 rfl) ?_
  refine lv_iload_n hx hb dX0_appear_32 rfl (lv_at hl 2 rfl) ?_
  refine lv_iload_n hx hb dX0_appear_33 rfl (lv_at hl 3 rfl) ?_
  refine cVv ⟨hx, hb, hml, hown, hts⟩ (c_setFilter l G (wdS (cpF6 (cpF6 (thU S (va_up (thS S) k true)) (2 * k + 2) a) (2 * k + 3) a) (2 * k + 3) FP.fconst0 FP.fconst0 FP.fconst0) k (show k < 512 by omega) g9 m9) (cwV 2 hts gX0_appear_X0_setFilter rfl rfl rfl (by decide +kernel) ⟨(Nat.le_of_ble_eq_true rfl), (Nat.le_of_ble_eq_true rfl)⟩) hw hT hS (rcv hw hT 4 k (show k < 512 by omega) rfl rfl) (As := [.int g9, .int m9]) (rest := []) rfl hl.1 rfl (Nat.le_of_ble_eq_true rfl) dX0_appear_34 ⟨(Nat.le_of_ble_eq_true rfl), (Nat.le_of_ble_eq_true rfl)⟩ (fun H locs hw hS => ?_)
  exact rv hx hb hlk hr hw hS  (Nat.le_of_ble_eq_true rfl) (Nat.le_of_ble_eq_true rfl) dX0_appear_37
set_option maxRecDepth 100000 in
set_option maxHeartbeats 1000000 in
theorem c_moveTo (l : Launch) (G : Gm) (S : St) (k : Nat) (hk : k < 512) (a : Nat) (ha : a < 1026) (h2 : a ≠ 2 * k + 2) (h3 : a ≠ 2 * k + 3) (dx dy dz : UInt32) (hn : mtB S k a = false → wdN (bxS (cpF6 (cpF6 S (2 * k + 2) a) (2 * k + 3) a) (2 * k + 3)) dx dy dz) : Pi l yX0_moveTo wsX0_moveTo ({ frames := 2, cells := 0, slots := 0, locals := 81 } : Room) [.ref (g_ad G 4 k), .ref (g_ad G 1 a), .float dx, .float dy, .float dz] G S (bI (!(mtB S k a))) (mtS S k a dx dy dz) := by
  refine ent (cc := cX0_moveTo) (maxL := 5) (ret := (some .boolean)) (by decide) rfl (Nat.le_of_ble_eq_true rfl) ?_
  intro p e s m below meth c ls C hw hT hS hl
  obtain ⟨hx, hb, hr, hml, hown, hts, hlk⟩ := C
  have hl : lv_has ls 5 [(0, .ref (g_ad G 4 k)), (1, .ref (g_ad G 1 a)), (2, .float dx), (3, .float dy), (4, .float dz)] := hl
  refine lv_aload_n hx hb dX0_moveTo_0 rfl (lv_at hl 0 rfl) ?_
  refine gf hx hb hown hts hw hT 4 k (show k < 512 by omega) (ci := 0) rfl rfl (fun _ h => List.mem_cons_of_mem _ (List.mem_append_left _ (List.mem_append_right _ h))) 0 (by decide) (List.mem_of_getElem? (i := 1) rfl) (v := .ref (g_ad G 1 (2 * k + 2))) rfl dX0_moveTo_1 ?_
  refine lv_aload_n hx hb dX0_moveTo_4 rfl (lv_at hl 1 rfl) ?_
  refine cVv ⟨hx, hb, hml, hown, hts⟩ (c_copyFrom l G S (2 * k + 2) (show 2 * k + 2 < 1026 by omega) a (show a < 1026 by omega) h2) (cwV 1 hts gX0_moveTo_X1_copyFrom rfl rfl rfl (by decide +kernel) ⟨(Nat.le_of_ble_eq_true rfl), (Nat.le_of_ble_eq_true rfl)⟩) hw hT hS (rcv hw hT 1 (2 * k + 2) (show 2 * k + 2 < 1026 by omega) rfl rfl) (As := [.ref (g_ad G 1 a)]) (rest := []) rfl hl.1 rfl (Nat.le_of_ble_eq_true rfl) dX0_moveTo_5 ⟨(Nat.le_of_ble_eq_true rfl), (Nat.le_of_ble_eq_true rfl)⟩ (fun H locs hw hS => ?_)
  refine lv_aload_n hx hb dX0_moveTo_8 rfl (lv_at hl 0 rfl) ?_
  refine gf hx hb hown hts hw hT 4 k (show k < 512 by omega) (ci := 0) rfl rfl (fun _ h => List.mem_cons_of_mem _ (List.mem_append_left _ (List.mem_append_right _ h))) 0 (by decide) (List.mem_of_getElem? (i := 1) rfl) (v := .ref (g_ad G 1 (2 * k + 2))) rfl dX0_moveTo_9 ?_
  refine lv_aload_n hx hb dX0_moveTo_12 rfl (lv_at hl 0 rfl) ?_
  refine gf hx hb hown hts hw hT 4 k (show k < 512 by omega) (ci := 0) rfl rfl (fun _ h => List.mem_cons_of_mem _ (List.mem_append_left _ (List.mem_append_right _ h))) 1 (by decide) (List.mem_of_getElem? (i := 2) rfl) (v := .ref (g_ad G 1 (2 * k + 3))) rfl dX0_moveTo_13 ?_
  refine cVi ⟨hx, hb, hml, hown, hts⟩ (c_liesIn l G (cpF6 S (2 * k + 2) a) (2 * k + 2) (show 2 * k + 2 < 1026 by omega) (2 * k + 3) (show 2 * k + 3 < 1026 by omega)) (cwV 1 hts gX0_moveTo_X1_liesIn rfl rfl rfl (by decide +kernel) ⟨(Nat.le_of_ble_eq_true rfl), (Nat.le_of_ble_eq_true rfl)⟩) hw hT hS (rcv hw hT 1 (2 * k + 2) (show 2 * k + 2 < 1026 by omega) rfl rfl) (As := [.ref (g_ad G 1 (2 * k + 3))]) (rest := []) rfl hl.1 rfl (Nat.le_of_ble_eq_true rfl) dX0_moveTo_16 ⟨(Nat.le_of_ble_eq_true rfl), (Nat.le_of_ble_eq_true rfl)⟩ (fun H locs hw hS => ?_)
  refine lv_if_eq (tgt := 24) hx hb dX0_moveTo_19 (by decide) (fun h1 => ?_) (fun h1 => ?_)
  · skip
    have h1 := bI_0.mp h1
    refine lv_aload_n hx hb dX0_moveTo_24 rfl (lv_at hl 0 rfl) ?_
    refine gf hx hb hown hts hw hT 4 k (show k < 512 by omega) (ci := 0) rfl rfl (fun _ h => List.mem_cons_of_mem _ (List.mem_append_left _ (List.mem_append_right _ h))) 1 (by decide) (List.mem_of_getElem? (i := 2) rfl) (v := .ref (g_ad G 1 (2 * k + 3))) rfl dX0_moveTo_25 ?_
    refine lv_aload_n hx hb dX0_moveTo_28 rfl (lv_at hl 1 rfl) ?_
    refine cVv ⟨hx, hb, hml, hown, hts⟩ (c_copyFrom l G (cpF6 S (2 * k + 2) a) (2 * k + 3) (show 2 * k + 3 < 1026 by omega) a (show a < 1026 by omega) h3) (cwV 1 hts gX0_moveTo_X1_copyFrom rfl rfl rfl (by decide +kernel) ⟨(Nat.le_of_ble_eq_true rfl), (Nat.le_of_ble_eq_true rfl)⟩) hw hT hS (rcv hw hT 1 (2 * k + 3) (show 2 * k + 3 < 1026 by omega) rfl rfl) (As := [.ref (g_ad G 1 a)]) (rest := []) rfl hl.1 rfl (Nat.le_of_ble_eq_true rfl) dX0_moveTo_29 ⟨(Nat.le_of_ble_eq_true rfl), (Nat.le_of_ble_eq_true rfl)⟩ (fun H locs hw hS => ?_)
    refine lv_aload_n hx hb dX0_moveTo_32 rfl (lv_at hl 0 rfl) ?_
    refine gf hx hb hown hts hw hT 4 k (show k < 512 by omega) (ci := 0) rfl rfl (fun _ h => List.mem_cons_of_mem _ (List.mem_append_left _ (List.mem_append_right _ h))) 1 (by decide) (List.mem_of_getElem? (i := 2) rfl) (v := .ref (g_ad G 1 (2 * k + 3))) rfl dX0_moveTo_33 ?_
    refine lv_fload_n hx hb dX0_moveTo_36 rfl (lv_at hl 2 rfl) ?_
    refine lv_fload_n hx hb dX0_moveTo_37 rfl (lv_at hl 3 rfl) ?_
    refine lv_fload hx hb dX0_moveTo_38 (lv_at hl 4 rfl) ?_
    refine cVv ⟨hx, hb, hml, hown, hts⟩ (c_widen l G (cpF6 (cpF6 S (2 * k + 2) a) (2 * k + 3) a) (2 * k + 3) (show 2 * k + 3 < 1026 by omega) dx dy dz (hn (by have q := h1; exact q))) (cwV 3 hts gX0_moveTo_X1_widen rfl rfl rfl (by decide +kernel) ⟨(Nat.le_of_ble_eq_true rfl), (Nat.le_of_ble_eq_true rfl)⟩) hw hT hS (rcv hw hT 1 (2 * k + 3) (show 2 * k + 3 < 1026 by omega) rfl rfl) (As := [.float dx, .float dy, .float dz]) (rest := []) rfl hl.1 rfl (Nat.le_of_ble_eq_true rfl) dX0_moveTo_40 ⟨(Nat.le_of_ble_eq_true rfl), (Nat.le_of_ble_eq_true rfl)⟩ (fun H locs hw hS => ?_)
    refine lv_aload_n hx hb dX0_moveTo_43 rfl (lv_at hl 0 rfl) ?_
    refine lv_iconst (v := nI 1) hx hb dX0_moveTo_44 (by decide) ?_
    refine top_i (y := bI true) (by decide) ?_
    refine pf (S' := (tcU (wdS (cpF6 (cpF6 S (2 * k + 2) a) (2 * k + 3) a) (2 * k + 3) dx dy dz) (va_up (tcS (wdS (cpF6 (cpF6 S (2 * k + 2) a) (2 * k + 3) a) (2 * k + 3) dx dy dz)) k true))) hx hb hown hts hw hT hS 4 k (show k < 512 by omega) (ci := 0) rfl rfl (fun _ h => List.mem_cons_of_mem _ (List.mem_append_left _ (List.mem_append_right _ h))) tyX0 tyX0_ok nmX0 5 (by decide) (List.mem_of_getElem? (i := 3) rfl) rfl (ty := .boolean) (by decide +kernel) (bI_nar _) (bI_fit _) (Nat.le_of_ble_eq_true rfl) (mup_tc G (wdS (cpF6 (cpF6 S (2 * k + 2) a) (2 * k + 3) a) (2 * k + 3) dx dy dz) k true) dX0_moveTo_45 (fun H locs hw hS => ?_)
    refine lv_iconst (v := nI 1) hx hb dX0_moveTo_48 (by decide) ?_
    refine top_i (y := bI true) (by decide) ?_
    exact ri hx hb hlk hr (by unfold mtS; rw [if_neg (show ¬ mtB S k a = true from by rw [show mtB S k a = false from h1]; decide)]; exact hw) hS (congrArg bI (show true = !(mtB S k a) by rw [show mtB S k a = false from h1]; rfl)) (bI_nar _) (Nat.le_of_ble_eq_true rfl) (Nat.le_of_ble_eq_true rfl) dX0_moveTo_49
  · skip
    have h1 := bI_n0.mp h1
    refine lv_iconst (v := nI 0) hx hb dX0_moveTo_22 (by decide) ?_
    refine top_i (y := bI false) (by decide) ?_
    exact ri hx hb hlk hr (by unfold mtS; rw [if_pos (show mtB S k a = true from h1)]; exact hw) hS (congrArg bI (show false = !(mtB S k a) by rw [show mtB S k a = true from h1]; rfl)) (bI_nar _) (Nat.le_of_ble_eq_true rfl) (Nat.le_of_ble_eq_true rfl) dX0_moveTo_23
set_option maxRecDepth 100000 in
set_option maxHeartbeats 1000000 in
theorem c_pairsWith (l : Launch) (G : Gm) (S : St) (k : Nat) (hk : k < 512) (o : Nat) (ho : o < 512) : Pi l yX0_pairsWith wsX0_pairsWith ({ frames := 1, cells := 0, slots := 0, locals := 22 } : Room) [.ref (g_ad G 4 k), .ref (g_ad G 4 o)] G S (bI (pwB S k o)) S := by
  refine ent (cc := cX0_pairsWith) (maxL := 2) (ret := (some .boolean)) (by decide) rfl (Nat.le_of_ble_eq_true rfl) ?_
  intro p e s m below meth c ls C hw hT hS hl
  obtain ⟨hx, hb, hr, hml, hown, hts, hlk⟩ := C
  have hl : lv_has ls 2 [(0, .ref (g_ad G 4 k)), (1, .ref (g_ad G 4 o))] := hl
  refine lv_aload_n hx hb dX0_pairsWith_0 rfl (lv_at hl 0 rfl) ?_
  refine gf hx hb hown hts hw hT 4 k (show k < 512 by omega) (ci := 0) rfl rfl (fun _ h => List.mem_cons_of_mem _ (List.mem_append_left _ (List.mem_append_right _ h))) 4 (by decide) (List.mem_of_getElem? (i := 1) rfl) (v := .int (bI (thS S k))) rfl dX0_pairsWith_1 ?_
  refine lv_if_eq (tgt := 56) hx hb dX0_pairsWith_4 (by decide) (fun h1 => ?_) (fun h1 => ?_)
  · skip
    have h1 := bI_0.mp h1
    refine lv_iconst (v := nI 0) hx hb dX0_pairsWith_56 (by decide) ?_
    refine top_i (y := bI false) (by decide) ?_
    exact ri hx hb hlk hr hw hS (congrArg bI (by simp [pwB, h1])) (bI_nar _) (Nat.le_of_ble_eq_true rfl) (Nat.le_of_ble_eq_true rfl) dX0_pairsWith_57
  · skip
    have h1 := bI_n0.mp h1
    refine lv_aload_n hx hb dX0_pairsWith_7 rfl (lv_at hl 1 rfl) ?_
    refine gf hx hb hown hts hw hT 4 o (show o < 512 by omega) (ci := 0) rfl rfl (fun _ h => List.mem_cons_of_mem _ (List.mem_append_left _ (List.mem_append_right _ h))) 4 (by decide) (List.mem_of_getElem? (i := 1) rfl) (v := .int (bI (thS S o))) rfl dX0_pairsWith_8 ?_
    refine lv_if_eq (tgt := 56) hx hb dX0_pairsWith_11 (by decide) (fun h2 => ?_) (fun h2 => ?_)
    · skip
      have h2 := bI_0.mp h2
      refine lv_iconst (v := nI 0) hx hb dX0_pairsWith_56 (by decide) ?_
      refine top_i (y := bI false) (by decide) ?_
      exact ri hx hb hlk hr hw hS (congrArg bI (by simp [pwB, h1, h2])) (bI_nar _) (Nat.le_of_ble_eq_true rfl) (Nat.le_of_ble_eq_true rfl) dX0_pairsWith_57
    · skip
      have h2 := bI_n0.mp h2
      refine lv_aload_n hx hb dX0_pairsWith_14 rfl (lv_at hl 0 rfl) ?_
      refine gf hx hb hown hts hw hT 4 k (show k < 512 by omega) (ci := 0) rfl rfl (fun _ h => List.mem_cons_of_mem _ (List.mem_append_left _ (List.mem_append_right _ h))) 2 (by decide) (List.mem_of_getElem? (i := 2) rfl) (v := .int (grS S k)) rfl dX0_pairsWith_15 ?_
      refine lv_aload_n hx hb dX0_pairsWith_18 rfl (lv_at hl 1 rfl) ?_
      refine gf hx hb hown hts hw hT 4 o (show o < 512 by omega) (ci := 0) rfl rfl (fun _ h => List.mem_cons_of_mem _ (List.mem_append_left _ (List.mem_append_right _ h))) 3 (by decide) (List.mem_of_getElem? (i := 3) rfl) (v := .int (mkS S o)) rfl dX0_pairsWith_19 ?_
      refine lv_iand hx hb dX0_pairsWith_22 ?_
      refine lv_if_eq (tgt := 56) hx hb dX0_pairsWith_23 (by decide) (fun h3 => ?_) (fun h3 => ?_)
      · skip
        refine lv_iconst (v := nI 0) hx hb dX0_pairsWith_56 (by decide) ?_
        refine top_i (y := bI false) (by decide) ?_
        exact ri hx hb hlk hr hw hS (congrArg bI (by simp [pwB, h1, h2, h3])) (bI_nar _) (Nat.le_of_ble_eq_true rfl) (Nat.le_of_ble_eq_true rfl) dX0_pairsWith_57
      · skip
        refine lv_aload_n hx hb dX0_pairsWith_26 rfl (lv_at hl 1 rfl) ?_
        refine gf hx hb hown hts hw hT 4 o (show o < 512 by omega) (ci := 0) rfl rfl (fun _ h => List.mem_cons_of_mem _ (List.mem_append_left _ (List.mem_append_right _ h))) 2 (by decide) (List.mem_of_getElem? (i := 2) rfl) (v := .int (grS S o)) rfl dX0_pairsWith_27 ?_
        refine lv_aload_n hx hb dX0_pairsWith_30 rfl (lv_at hl 0 rfl) ?_
        refine gf hx hb hown hts hw hT 4 k (show k < 512 by omega) (ci := 0) rfl rfl (fun _ h => List.mem_cons_of_mem _ (List.mem_append_left _ (List.mem_append_right _ h))) 3 (by decide) (List.mem_of_getElem? (i := 3) rfl) (v := .int (mkS S k)) rfl dX0_pairsWith_31 ?_
        refine lv_iand hx hb dX0_pairsWith_34 ?_
        refine lv_if_eq (tgt := 56) hx hb dX0_pairsWith_35 (by decide) (fun h4 => ?_) (fun h4 => ?_)
        · skip
          refine lv_iconst (v := nI 0) hx hb dX0_pairsWith_56 (by decide) ?_
          refine top_i (y := bI false) (by decide) ?_
          exact ri hx hb hlk hr hw hS (congrArg bI (by simp [pwB, h1, h2, h3, h4])) (bI_nar _) (Nat.le_of_ble_eq_true rfl) (Nat.le_of_ble_eq_true rfl) dX0_pairsWith_57
        · skip
          refine lv_aload_n hx hb dX0_pairsWith_38 rfl (lv_at hl 0 rfl) ?_
          refine gf hx hb hown hts hw hT 4 k (show k < 512 by omega) (ci := 0) rfl rfl (fun _ h => List.mem_cons_of_mem _ (List.mem_append_left _ (List.mem_append_right _ h))) 1 (by decide) (List.mem_of_getElem? (i := 4) rfl) (v := .ref (g_ad G 1 (2 * k + 3))) rfl dX0_pairsWith_39 ?_
          refine lv_aload_n hx hb dX0_pairsWith_42 rfl (lv_at hl 1 rfl) ?_
          refine gf hx hb hown hts hw hT 4 o (show o < 512 by omega) (ci := 0) rfl rfl (fun _ h => List.mem_cons_of_mem _ (List.mem_append_left _ (List.mem_append_right _ h))) 1 (by decide) (List.mem_of_getElem? (i := 4) rfl) (v := .ref (g_ad G 1 (2 * o + 3))) rfl dX0_pairsWith_43 ?_
          refine cVi ⟨hx, hb, hml, hown, hts⟩ (c_overlaps l G S (2 * k + 3) (show 2 * k + 3 < 1026 by omega) (2 * o + 3) (show 2 * o + 3 < 1026 by omega)) (cwV 1 hts gX0_pairsWith_X1_overlaps rfl rfl rfl (by decide +kernel) ⟨(Nat.le_of_ble_eq_true rfl), (Nat.le_of_ble_eq_true rfl)⟩) hw hT hS (rcv hw hT 1 (2 * k + 3) (show 2 * k + 3 < 1026 by omega) rfl rfl) (As := [.ref (g_ad G 1 (2 * o + 3))]) (rest := []) rfl hl.1 rfl (Nat.le_of_ble_eq_true rfl) dX0_pairsWith_46 ⟨(Nat.le_of_ble_eq_true rfl), (Nat.le_of_ble_eq_true rfl)⟩ (fun H locs hw hS => ?_)
          refine lv_if_eq (tgt := 56) hx hb dX0_pairsWith_49 (by decide) (fun h5 => ?_) (fun h5 => ?_)
          · skip
            have h5 := bI_0.mp h5
            refine lv_iconst (v := nI 0) hx hb dX0_pairsWith_56 (by decide) ?_
            refine top_i (y := bI false) (by decide) ?_
            exact ri hx hb hlk hr hw hS (congrArg bI (by simp [pwB, h1, h2, h3, h4, h5])) (bI_nar _) (Nat.le_of_ble_eq_true rfl) (Nat.le_of_ble_eq_true rfl) dX0_pairsWith_57
          · skip
            have h5 := bI_n0.mp h5
            refine lv_iconst (v := nI 1) hx hb dX0_pairsWith_52 (by decide) ?_
            refine lv_goto (tgt := 57) hx hb dX0_pairsWith_53 (by decide) ?_
            refine top_i (y := bI true) (by decide) ?_
            exact ri hx hb hlk hr hw hS (congrArg bI (by simp [pwB, h1, h2, h3, h4, h5])) (bI_nar _) (Nat.le_of_ble_eq_true rfl) (Nat.le_of_ble_eq_true rfl) dX0_pairsWith_57
