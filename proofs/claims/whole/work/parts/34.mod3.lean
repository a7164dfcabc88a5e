/-! The model: the asking methods -/
def fdB (S : St) (k : Int32) : Bool := !(decide (k < 0)) && decide (k < mnS S 2)
def fdMS (S : St) (k : Int32) : St := gsS S (fdB S k) true
def fdMI (S : St) (k : Int32) : Int32 := if (fdB S k && true) = true then mIS S 6 (kN k) else nI 0
def whMI (S : St) (k : Int32) : UInt32 := if (fdB S k && true) = true then mFS S 3 (kN k) else FP.fconst0
theorem fd_nat {S : St} {k : Int32} {c : Nat} (hc : mnS S 2 = nI c) (hc5 : c ≤ 512) (h : fdB S k = true) : ∃ j, j < c ∧ k = nI j := by
  unfold fdB at h
  rw [hc] at h
  simp only [Bool.and_eq_true, Bool.not_eq_true', decide_eq_false_iff_not, decide_eq_true_eq] at h
  exact nat_of (by omega) h.1 h.2
theorem and_t {a b : Bool} (ha : a = true) (hb : b = true) : (a && b) = true := by rw [ha, hb]; rfl
def coM (S : St) (k wh : Int32) : UInt32 := if (kwF S k && (!(decide (wh < 0)) && !(decide (nI 11 < wh))) && true) = true then (if wh < nI 6 then mFS S 2 (6 * kN k + kN wh) else mFS S 1 (6 * kN k + kN wh - 6)) else FP.fconst0
def coMS (S : St) (k wh : Int32) : St := gsS S (kwF S k && (!(decide (wh < 0)) && !(decide (nI 11 < wh)))) true
def aoM (S : St) (k wh : Int32) : Int32 := if (kwF S k && (!(decide (wh < 0)) && !(decide (nI 3 < wh))) && true) = true then (if wh = 0 then mIS S 0 (kN k) else if wh = nI 1 then mIS S 1 (kN k) else if wh = nI 2 then nI (ctB (pkF (okS S) (kN k)) 512) else bI (mZS S 1 (kN k))) else nI 0
def aoMS (S : St) (k wh : Int32) : St := gsS S (kwF S k && (!(decide (wh < 0)) && !(decide (nI 3 < wh)))) true
def pdM (S : St) (a b : Int32) : Bool := ((kwF S a && kwF S b) && true) && (!(decide (a = b)) && ipF (okS S) (kN a) (kN b))
def pdMS (S : St) (a b : Int32) : St := gsS S (kwF S a && kwF S b) true
theorem wh_nat {wh : Int32} {n : Nat} (hn : n < 2 ^ 31) (h : (!(decide (wh < 0)) && !(decide (nI n < wh))) = true) : ∃ j, j ≤ n ∧ wh = nI j := by
  simp only [Bool.and_eq_true, Bool.not_eq_true', decide_eq_false_iff_not] at h
  obtain ⟨j, hj, rfl⟩ := nI_of h.1
  refine ⟨j, ?_, rfl⟩
  rcases Nat.lt_or_ge n j with q | q
  · exact absurd (nI_lt q hj) h.2
  · exact q
def nrM (S : St) (c : Nat) : Int32 := if c = 0 then -1 else mIS S 6 (nrB (mFS S 3) (c - 1) 1 0)
def nrMS (S : St) : St := mnU S (va_up (mnS S) 0 (nI 0))
set_option maxRecDepth 100000 in
set_option maxHeartbeats 1000000 in
theorem m_found (l : Launch) (G : Gm) (S : St) (c9 : Nat) (hc : mnS S 2 = nI c9) (hc5 : c9 ≤ 512) (k : Int32) : Pi l yX4_found wsX4_found ({ frames := 1, cells := 0, slots := 0, locals := 22 } : Room) [.ref (g_ad G 9 0), .int k] G S (fdMI S k) (fdMS S k) := by
  refine ent (cc := cX4_found) (maxL := 2) (ret := (some .int)) (by decide) rfl (Nat.le_of_ble_eq_true rfl) ?_
  intro p e s m below meth c ls C hw hT hS hl
  obtain ⟨hx, hb, hr, hml, hown, hts, hlk⟩ := C
  have hl : lv_has ls 2 [(0, .ref (g_ad G 9 0)), (1, .int k)] := hl
  refine lv_aload_n hx hb dX4_found_0 rfl (lv_at hl 0 rfl) ?_
  have K1 : ∀ (b9 : Bool) (H : Heap) (locs : List Loc), b9 = (fdB S k) → wdM G S H s → va_S (g_A G) s.heap H locs → W p l e ({ frames := 1, cells := 0, slots := 0, locals := 22 } : Room) s m ([.ref (g_ad G 9 0), .int k] : List Value).toArray below meth c H locs 0 0 (MQ below (Qi G (fdMI S k) (fdMS S k)) ([.ref (g_ad G 9 0), .int k] : List Value).toArray s ({ frames := 1, cells := 0, slots := 0, locals := 22 } : Room).cells ({ frames := 1, cells := 0, slots := 0, locals := 22 } : Room).slots (g_A G)) (F0 m 18 ls [.int (bI b9), .ref (g_ad G 9 0)]) := by
    intro b9 H locs hb9 hw hS
    subst hb9
    refine lv_iconst (v := nI 1) hx hb dX4_found_18 (by decide) ?_
    refine top_i (y := bI true) (by decide) ?_
    refine cVi ⟨hx, hb, hml, hown, hts⟩ (m_goes l G S (fdB S k) true) (cwV 2 hts gX4_found_X4_goes rfl rfl rfl (by decide +kernel) ⟨(Nat.le_of_ble_eq_true rfl), (Nat.le_of_ble_eq_true rfl)⟩) hw hT hS (rcv hw hT 9 0 (by decide) rfl rfl) (As := [.int (bI (fdB S k)), .int (bI true)]) (rest := []) rfl hl.1 rfl (Nat.le_of_ble_eq_true rfl) dX4_found_19 ⟨(Nat.le_of_ble_eq_true rfl), (Nat.le_of_ble_eq_true rfl)⟩ (fun H locs hw hS => ?_)
    refine lv_if_eq (tgt := 34) hx hb dX4_found_22 (by decide) (fun h2 => ?_) (fun h2 => ?_)
    · skip
      have h2 := bI_0.mp h2
      refine lv_iconst (v := nI 0) hx hb dX4_found_34 (by decide) ?_
      exact ri hx hb hlk hr (by unfold fdMS; exact hw) hS (by unfold fdMI; rw [if_neg (by rw [h2]; decide)]) (vp_nar_int _) (Nat.le_of_ble_eq_true rfl) (Nat.le_of_ble_eq_true rfl) dX4_found_35
    · skip
      have h2 := bI_n0.mp h2
      replace hw : wdM G (okS S) H s := by rw [gs_ok h2] at hw; exact hw
      obtain ⟨kn, hkn, rfl⟩ := fd_nat hc hc5 (and_l h2)
      refine lv_aload_n hx hb dX4_found_25 rfl (lv_at hl 0 rfl) ?_
      refine gf hx hb hown hts hw hT 9 0 (by decide) (ci := 4) rfl rfl (fun _ h => List.mem_cons_of_mem _ (List.mem_append_right _ h)) 14 (by decide) (List.mem_of_getElem? (i := 2) rfl) (v := .ref (g_ad G 11 6)) rfl dX4_found_26 ?_
      refine lv_iload_n hx hb dX4_found_29 rfl (lv_at hl 1 rfl) ?_
      refine ail hx hb hw hT 11 6 (by decide) (f := mIS (okS S) 6) rfl kn (show kn < 512 by omega) (by decide) dX4_found_30 ?_
      refine lv_goto (tgt := 35) hx hb dX4_found_31 (by decide) ?_
      exact ri hx hb hlk hr (by unfold fdMS; rw [gs_ok h2]; exact hw) hS (by unfold fdMI; rw [if_pos h2, kN_nI (show kn < 65536 by omega)]; rfl) (vp_nar_int _) (Nat.le_of_ble_eq_true rfl) (Nat.le_of_ble_eq_true rfl) dX4_found_35
  refine lv_iload_n hx hb dX4_found_1 rfl (lv_at hl 1 rfl) ?_
  refine lv_if_lt (tgt := 17) hx hb dX4_found_2 (by decide) (fun h3 => ?_) (fun h3 => ?_)
  · skip
    refine lv_iconst (v := nI 0) hx hb dX4_found_17 (by decide) ?_
    refine top_i (y := bI false) (by decide) ?_
    exact K1 false _ _ (by first | (simp only [fdB, h3, Bool.true_and, Bool.false_and, Bool.and_true, Bool.and_false]; done) | simp [fdB, h3]) hw hS
  · skip
    refine lv_iload_n hx hb dX4_found_5 rfl (lv_at hl 1 rfl) ?_
    refine lv_aload_n hx hb dX4_found_6 rfl (lv_at hl 0 rfl) ?_
    refine gf hx hb hown hts hw hT 9 0 (by decide) (ci := 4) rfl rfl (fun _ h => List.mem_cons_of_mem _ (List.mem_append_right _ h)) 13 (by decide) (List.mem_of_getElem? (i := 1) rfl) (v := .int (mnS S 2)) rfl dX4_found_7 ?_
    refine lv_icmp_ge (tgt := 17) hx hb dX4_found_10 (by decide) (fun h4 => ?_) (fun h4 => ?_)
    · skip
      have h4 : ¬ k < (mnS S 2) := Int32.not_lt.mpr h4
      refine lv_iconst (v := nI 0) hx hb dX4_found_17 (by decide) ?_
      refine top_i (y := bI false) (by decide) ?_
      exact K1 false _ _ (by first | (simp only [fdB, h3, h4, Bool.true_and, Bool.false_and, Bool.and_true, Bool.and_false]; done) | simp [fdB, h3, h4]) hw hS
    · skip
      have h4 : k < (mnS S 2) := Int32.not_le.mp h4
      refine lv_iconst (v := nI 1) hx hb dX4_found_13 (by decide) ?_
      refine lv_goto (tgt := 18) hx hb dX4_found_14 (by decide) ?_
      refine top_i (y := bI true) (by decide) ?_
      exact K1 true _ _ (by first | (simp only [fdB, h3, h4, Bool.true_and, Bool.false_and, Bool.and_true, Bool.and_false]; done) | simp [fdB, h3, h4]) hw hS
set_option maxRecDepth 100000 in
set_option maxHeartbeats 1000000 in
theorem m_where (l : Launch) (G : Gm) (S : St) (c9 : Nat) (hc : mnS S 2 = nI c9) (hc5 : c9 ≤ 512) (k : Int32) : Pf l yX4_where wsX4_where ({ frames := 1, cells := 0, slots := 0, locals := 22 } : Room) [.ref (g_ad G 9 0), .int k] G S (whMI S k) (fdMS S k) := by
  refine ent (cc := cX4_where) (maxL := 2) (ret := (some .float)) (by decide) rfl (Nat.le_of_ble_eq_true rfl) ?_
  intro p e s m below meth c ls C hw hT hS hl
  obtain ⟨hx, hb, hr, hml, hown, hts, hlk⟩ := C
  have hl : lv_has ls 2 [(0, .ref (g_ad G 9 0)), (1, .int k)] := hl
  refine lv_aload_n hx hb dX4_where_0 rfl (lv_at hl 0 rfl) ?_
  have K1 : ∀ (b9 : Bool) (H : Heap) (locs : List Loc), b9 = (fdB S k) → wdM G S H s → va_S (g_A G) s.heap H locs → W p l e ({ frames := 1, cells := 0, slots := 0, locals := 22 } : Room) s m ([.ref (g_ad G 9 0), .int k] : List Value).toArray below meth c H locs 0 0 (MQ below (Qf G (whMI S k) (fdMS S k)) ([.ref (g_ad G 9 0), .int k] : List Value).toArray s ({ frames := 1, cells := 0, slots := 0, locals := 22 } : Room).cells ({ frames := 1, cells := 0, slots := 0, locals := 22 } : Room).slots (g_A G)) (F0 m 18 ls [.int (bI b9), .ref (g_ad G 9 0)]) := by
    intro b9 H locs hb9 hw hS
    subst hb9
    refine lv_iconst (v := nI 1) hx hb dX4_where_18 (by decide) ?_
    refine top_i (y := bI true) (by decide) ?_
    refine cVi ⟨hx, hb, hml, hown, hts⟩ (m_goes l G S (fdB S k) true) (cwV 2 hts gX4_where_X4_goes rfl rfl rfl (by decide +kernel) ⟨(Nat.le_of_ble_eq_true rfl), (Nat.le_of_ble_eq_true rfl)⟩) hw hT hS (rcv hw hT 9 0 (by decide) rfl rfl) (As := [.int (bI (fdB S k)), .int (bI true)]) (rest := []) rfl hl.1 rfl (Nat.le_of_ble_eq_true rfl) dX4_where_19 ⟨(Nat.le_of_ble_eq_true rfl), (Nat.le_of_ble_eq_true rfl)⟩ (fun H locs hw hS => ?_)
    refine lv_if_eq (tgt := 34) hx hb dX4_where_22 (by decide) (fun h2 => ?_) (fun h2 => ?_)
    · skip
      have h2 := bI_0.mp h2
      refine lv_fconst0 hx hb dX4_where_34 ?_
      exact rf hx hb hlk hr (by unfold fdMS; exact hw) hS (by unfold whMI; rw [if_neg (by rw [h2]; decide)]) (Nat.le_of_ble_eq_true rfl) (Nat.le_of_ble_eq_true rfl) dX4_where_35
    · skip
      have h2 := bI_n0.mp h2
      replace hw : wdM G (okS S) H s := by rw [gs_ok h2] at hw; exact hw
      obtain ⟨kn, hkn, rfl⟩ := fd_nat hc hc5 (and_l h2)
      refine lv_aload_n hx hb dX4_where_25 rfl (lv_at hl 0 rfl) ?_
      refine gf hx hb hown hts hw hT 9 0 (by decide) (ci := 4) rfl rfl (fun _ h => List.mem_cons_of_mem _ (List.mem_append_right _ h)) 15 (by decide) (List.mem_of_getElem? (i := 2) rfl) (v := .ref (g_ad G 10 3)) rfl dX4_where_26 ?_
      refine lv_iload_n hx hb dX4_where_29 rfl (lv_at hl 1 rfl) ?_
      refine afl hx hb hw hT 10 3 (by decide) (f := mFS (okS S) 3) rfl kn (show kn < 512 by omega) (by decide) dX4_where_30 ?_
      refine lv_goto (tgt := 35) hx hb dX4_where_31 (by decide) ?_
      exact rf hx hb hlk hr (by unfold fdMS; rw [gs_ok h2]; exact hw) hS (by unfold whMI; rw [if_pos h2, kN_nI (show kn < 65536 by omega)]; rfl) (Nat.le_of_ble_eq_true rfl) (Nat.le_of_ble_eq_true rfl) dX4_where_35
  refine lv_iload_n hx hb dX4_where_1 rfl (lv_at hl 1 rfl) ?_
  refine lv_if_lt (tgt := 17) hx hb dX4_where_2 (by decide) (fun h3 => ?_) (fun h3 => ?_)
  · skip
    refine lv_iconst (v := nI 0) hx hb dX4_where_17 (by decide) ?_
    refine top_i (y := bI false) (by decide) ?_
    exact K1 false _ _ (by first | (simp only [fdB, h3, Bool.true_and, Bool.false_and, Bool.and_true, Bool.and_false]; done) | simp [fdB, h3]) hw hS
  · skip
    refine lv_iload_n hx hb dX4_where_5 rfl (lv_at hl 1 rfl) ?_
    refine lv_aload_n hx hb dX4_where_6 rfl (lv_at hl 0 rfl) ?_
    refine gf hx hb hown hts hw hT 9 0 (by decide) (ci := 4) rfl rfl (fun _ h => List.mem_cons_of_mem _ (List.mem_append_right _ h)) 13 (by decide) (List.mem_of_getElem? (i := 1) rfl) (v := .int (mnS S 2)) rfl dX4_where_7 ?_
    refine lv_icmp_ge (tgt := 17) hx hb dX4_where_10 (by decide) (fun h4 => ?_) (fun h4 => ?_)
    · skip
      have h4 : ¬ k < (mnS S 2) := Int32.not_lt.mpr h4
      refine lv_iconst (v := nI 0) hx hb dX4_where_17 (by decide) ?_
      refine top_i (y := bI false) (by decide) ?_
      exact K1 false _ _ (by first | (simp only [fdB, h3, h4, Bool.true_and, Bool.false_and, Bool.and_true, Bool.and_false]; done) | simp [fdB, h3, h4]) hw hS
    · skip
      have h4 : k < (mnS S 2) := Int32.not_le.mp h4
      refine lv_iconst (v := nI 1) hx hb dX4_where_13 (by decide) ?_
      refine lv_goto (tgt := 18) hx hb dX4_where_14 (by decide) ?_
      refine top_i (y := bI true) (by decide) ?_
      exact K1 true _ _ (by first | (simp only [fdB, h3, h4, Bool.true_and, Bool.false_and, Bool.and_true, Bool.and_false]; done) | simp [fdB, h3, h4]) hw hS
set_option maxRecDepth 100000 in
set_option maxHeartbeats 1000000 in
theorem m_nearest (l : Launch) (G : Gm) (S : St) (c9 : Nat) (hc : mnS S 2 = nI c9) (hc5 : c9 ≤ 512) : Pi l yX4_nearest wsX4_nearest ({ frames := 0, cells := 0, slots := 0, locals := 0 } : Room) [.ref (g_ad G 9 0)] G S (nrM S c9) (nrMS S) := by
  refine ent (cc := cX4_nearest) (maxL := 3) (ret := (some .int)) (by decide) rfl (Nat.le_of_ble_eq_true rfl) ?_
  intro p e s m below meth c ls C hw hT hS hl
  obtain ⟨hx, hb, hr, hml, hown, hts, hlk⟩ := C
  have hl : lv_has ls 3 [(0, .ref (g_ad G 9 0))] := hl
  refine lv_aload_n hx hb dX4_nearest_0 rfl (lv_at hl 0 rfl) ?_
  refine lv_iconst (v := nI 0) hx hb dX4_nearest_1 (by decide) ?_
  refine pf (S' := (mnU S (va_up (mnS S) 0 (nI 0)))) hx hb hown hts hw hT hS 9 0 (by decide) (ci := 4) rfl rfl (fun _ h => List.mem_cons_of_mem _ (List.mem_append_right _ h)) tyX4 tyX4_ok nmX4 0 (by decide) (List.mem_of_getElem? (i := 1) rfl) rfl (ty := .int) (by decide +kernel) (vp_nar_int _) rfl (Nat.le_of_ble_eq_true rfl) (mup_mn0 G S (nI 0)) dX4_nearest_2 (fun H locs hw hS => ?_)
  have hw : wdM G (nrMS S) H s := hw
  refine lv_iconst (v := (-1)) hx hb dX4_nearest_5 (by decide) ?_
  refine lv_istore_n (lv' := [(1, .int ((-1))), (0, .ref (g_ad G 9 0))]) hx hb dX4_nearest_6 rfl hl (by decide) rfl (fun ls hl => ?_)
  refine lv_iconst (v := nI 0) hx hb dX4_nearest_7 (by decide) ?_
  refine lv_istore_n (lv' := [(2, .int (nI 0)), (1, .int ((-1))), (0, .ref (g_ad G 9 0))]) hx hb dX4_nearest_8 rfl hl (by decide) rfl (fun ls hl => ?_)
  rcases Nat.eq_zero_or_pos c9 with hc0 | hc0
  · skip
    subst hc0
    refine lv_iload_n hx hb dX4_nearest_9 rfl (lv_at hl 0 rfl) ?_
    refine lv_aload_n hx hb dX4_nearest_10 rfl (lv_at hl 2 rfl) ?_
    refine gf hx hb hown hts hw hT 9 0 (by decide) (ci := 4) rfl rfl (fun _ h => List.mem_cons_of_mem _ (List.mem_append_right _ h)) 13 (by decide) (List.mem_of_getElem? (i := 2) rfl) (v := .int (mnS (nrMS S) 2)) rfl dX4_nearest_11 ?_
    refine top_i (y := nI 0) hc ?_
    refine lv_icmp_ge (tgt := 49) hx hb dX4_nearest_14 (by decide) (fun _ => ?_) (fun q => absurd (by decide) q)
    refine lv_iload_n hx hb dX4_nearest_49 rfl (lv_at hl 1 rfl) ?_
    refine lv_if_ge (tgt := 57) hx hb dX4_nearest_50 (by decide) (fun q => absurd q (by decide)) (fun _ => ?_)
    refine lv_iconst (v := (-1)) hx hb dX4_nearest_53 (by decide) ?_
    refine lv_goto (tgt := 63) hx hb dX4_nearest_54 (by decide) ?_
    exact ri hx hb hlk hr hw hS (by unfold nrM; rw [if_pos rfl]) (vp_nar_int _) (Nat.le_of_ble_eq_true rfl) (Nat.le_of_ble_eq_true rfl) dX4_nearest_63
  · skip
    refine lv_iload_n hx hb dX4_nearest_9 rfl (lv_at hl 0 rfl) ?_
    refine lv_aload_n hx hb dX4_nearest_10 rfl (lv_at hl 2 rfl) ?_
    refine gf hx hb hown hts hw hT 9 0 (by decide) (ci := 4) rfl rfl (fun _ h => List.mem_cons_of_mem _ (List.mem_append_right _ h)) 13 (by decide) (List.mem_of_getElem? (i := 2) rfl) (v := .int (mnS (nrMS S) 2)) rfl dX4_nearest_11 ?_
    refine top_i (y := nI c9) hc ?_
    refine lv_icmp_ge (tgt := 49) hx hb dX4_nearest_14 (by decide) (fun q => absurd q (nI_ge (show 0 < c9 by omega) (by omega))) (fun _ => ?_)
    refine lv_iload_n hx hb dX4_nearest_17 rfl (lv_at hl 1 rfl) ?_
    refine lv_if_lt (tgt := 37) hx hb dX4_nearest_18 (by decide) (fun _ => ?_) (fun q => absurd (by decide) q)
    refine lv_iload_n hx hb dX4_nearest_37 rfl (lv_at hl 0 rfl) ?_
    refine lv_goto (tgt := 42) hx hb dX4_nearest_38 (by decide) ?_
    refine lv_istore_n (lv' := [(1, .int (nI 0)), (2, .int (nI 0)), (0, .ref (g_ad G 9 0))]) hx hb dX4_nearest_42 rfl hl (by decide) rfl (fun ls hl => ?_)
    refine lv_iinc (v := nI 1) (lv' := [(2, .int (nI 1)), (1, .int (nI 0)), (0, .ref (g_ad G 9 0))]) hx hb dX4_nearest_43 hl (k := 1) rfl (by decide) (by decide) rfl (fun ls hl => ?_)
    refine lv_goto (tgt := 9) hx hb dX4_nearest_46 (by decide) ?_
    have LOOP : ∀ (n i : Nat) (bs : Nat) (H : Heap) (locs : List Loc) (ls : Array Slot), i + n = c9 → (nrB (mFS (nrMS S) 3) n i bs = nrB (mFS (nrMS S) 3) (c9 - 1) 1 0) → (bs < c9) → wdM G (nrMS S) H s → va_S (g_A G) s.heap H locs → lv_has ls 3 [(2, .int (nI i)), (1, .int (nI bs)), (0, .ref (g_ad G 9 0))] → W p l e ({ frames := 0, cells := 0, slots := 0, locals := 0 } : Room) s m ([.ref (g_ad G 9 0)] : List Value).toArray below meth c H locs 0 0 (MQ below (Qi G (nrM S c9) (nrMS S)) ([.ref (g_ad G 9 0)] : List Value).toArray s ({ frames := 0, cells := 0, slots := 0, locals := 0 } : Room).cells ({ frames := 0, cells := 0, slots := 0, locals := 0 } : Room).slots (g_A G)) (F0 m 9 ls []) := by
      intro n
      induction n with
      | zero =>
        intro i bs H locs ls hn hq hbs hw hS hl
        obtain rfl : c9 = i := by omega
        refine lv_iload_n hx hb dX4_nearest_9 rfl (lv_at hl 0 rfl) ?_
        refine lv_aload_n hx hb dX4_nearest_10 rfl (lv_at hl 2 rfl) ?_
        refine gf hx hb hown hts hw hT 9 0 (by decide) (ci := 4) rfl rfl (fun _ h => List.mem_cons_of_mem _ (List.mem_append_right _ h)) 13 (by decide) (List.mem_of_getElem? (i := 2) rfl) (v := .int (mnS (nrMS S) 2)) rfl dX4_nearest_11 ?_
        refine top_i (y := nI c9) hc ?_
        refine lv_icmp_ge (tgt := 49) hx hb dX4_nearest_14 (by decide) (fun _ => ?_) (fun q => absurd (Int32.le_refl _) q)
        refine lv_iload_n hx hb dX4_nearest_49 rfl (lv_at hl 1 rfl) ?_
        refine lv_if_ge (tgt := 57) hx hb dX4_nearest_50 (by decide) (fun _ => ?_) (fun q => absurd (nI_pos' (by omega)) q)
        refine lv_aload_n hx hb dX4_nearest_57 rfl (lv_at hl 2 rfl) ?_
        refine gf hx hb hown hts hw hT 9 0 (by decide) (ci := 4) rfl rfl (fun _ h => List.mem_cons_of_mem _ (List.mem_append_right _ h)) 14 (by decide) (List.mem_of_getElem? (i := 4) rfl) (v := .ref (g_ad G 11 6)) rfl dX4_nearest_58 ?_
        refine lv_iload_n hx hb dX4_nearest_61 rfl (lv_at hl 1 rfl) ?_
        refine ail hx hb hw hT 11 6 (by decide) (f := mIS (nrMS S) 6) rfl bs (show bs < 512 by omega) (by decide) dX4_nearest_62 ?_
        exact ri hx hb hlk hr hw hS (by unfold nrM; rw [if_neg (by omega), show mFS S 3 = mFS (nrMS S) 3 from rfl, ← hq]; rfl) (vp_nar_int _) (Nat.le_of_ble_eq_true rfl) (Nat.le_of_ble_eq_true rfl) dX4_nearest_63
      | succ n ih =>
        intro i bs H locs ls hn hq hbs hw hS hl
        have hi : i < c9 := by omega
        refine lv_iload_n hx hb dX4_nearest_9 rfl (lv_at hl 0 rfl) ?_
        refine lv_aload_n hx hb dX4_nearest_10 rfl (lv_at hl 2 rfl) ?_
        refine gf hx hb hown hts hw hT 9 0 (by decide) (ci := 4) rfl rfl (fun _ h => List.mem_cons_of_mem _ (List.mem_append_right _ h)) 13 (by decide) (List.mem_of_getElem? (i := 2) rfl) (v := .int (mnS (nrMS S) 2)) rfl dX4_nearest_11 ?_
        refine top_i (y := nI c9) hc ?_
        refine lv_icmp_ge (tgt := 49) hx hb dX4_nearest_14 (by decide) (fun q => absurd q (nI_ge hi (by omega))) (fun _ => ?_)
        refine lv_iload_n hx hb dX4_nearest_17 rfl (lv_at hl 1 rfl) ?_
        refine lv_if_lt (tgt := 37) hx hb dX4_nearest_18 (by decide) (fun q => absurd q (nI_pos (by omega))) (fun _ => ?_)
        refine lv_aload_n hx hb dX4_nearest_21 rfl (lv_at hl 2 rfl) ?_
        refine gf hx hb hown hts hw hT 9 0 (by decide) (ci := 4) rfl rfl (fun _ h => List.mem_cons_of_mem _ (List.mem_append_right _ h)) 15 (by decide) (List.mem_of_getElem? (i := 3) rfl) (v := .ref (g_ad G 10 3)) rfl dX4_nearest_22 ?_
        refine lv_iload_n hx hb dX4_nearest_25 rfl (lv_at hl 0 rfl) ?_
        refine afl hx hb hw hT 10 3 (by decide) (f := mFS (nrMS S) 3) rfl i (show i < 512 by omega) (by decide) dX4_nearest_26 ?_
        refine lv_aload_n hx hb dX4_nearest_27 rfl (lv_at hl 2 rfl) ?_
        refine gf hx hb hown hts hw hT 9 0 (by decide) (ci := 4) rfl rfl (fun _ h => List.mem_cons_of_mem _ (List.mem_append_right _ h)) 15 (by decide) (List.mem_of_getElem? (i := 3) rfl) (v := .ref (g_ad G 10 3)) rfl dX4_nearest_28 ?_
        refine lv_iload_n hx hb dX4_nearest_31 rfl (lv_at hl 1 rfl) ?_
        refine afl hx hb hw hT 10 3 (by decide) (f := mFS (nrMS S) 3) rfl bs (show bs < 512 by omega) (by decide) dX4_nearest_32 ?_
        refine fc_gge (x := mFS (nrMS S) 3 i) (y := mFS (nrMS S) 3 bs) (tgt := 41) hx hb dX4_nearest_33 dX4_nearest_34 (by decide) (fun h9 => ?_) (fun h9 => ?_)
        · skip
          refine lv_iload_n hx hb dX4_nearest_41 rfl (lv_at hl 1 rfl) ?_
          refine lv_istore_n (lv' := [(1, .int (nI bs)), (2, .int (nI i)), (0, .ref (g_ad G 9 0))]) hx hb dX4_nearest_42 rfl hl (by decide) rfl (fun ls hl => ?_)
          refine lv_iinc (v := nI (i + 1)) (lv' := [(2, .int (nI (i + 1))), (1, .int (nI bs)), (0, .ref (g_ad G 9 0))]) hx hb dX4_nearest_43 hl (k := 1) rfl (nI_add i 1) (by decide) rfl (fun ls hl => ?_)
          refine lv_goto (tgt := 9) hx hb dX4_nearest_46 (by decide) ?_
          exact ih (i + 1) bs H locs ls (by omega) (by rw [← hq, nrB, if_neg (by rw [h9]; decide)]) (by omega) hw hS (lv_sub hl [0, 1, 2] rfl)
        · skip
          refine lv_iload_n hx hb dX4_nearest_37 rfl (lv_at hl 0 rfl) ?_
          refine lv_goto (tgt := 42) hx hb dX4_nearest_38 (by decide) ?_
          refine lv_istore_n (lv' := [(1, .int (nI i)), (2, .int (nI i)), (0, .ref (g_ad G 9 0))]) hx hb dX4_nearest_42 rfl hl (by decide) rfl (fun ls hl => ?_)
          refine lv_iinc (v := nI (i + 1)) (lv' := [(2, .int (nI (i + 1))), (1, .int (nI i)), (0, .ref (g_ad G 9 0))]) hx hb dX4_nearest_43 hl (k := 1) rfl (nI_add i 1) (by decide) rfl (fun ls hl => ?_)
          refine lv_goto (tgt := 9) hx hb dX4_nearest_46 (by decide) ?_
          exact ih (i + 1) i H locs ls (by omega) (by rw [← hq, nrB, if_pos h9]) (by omega) hw hS (lv_sub hl [0, 1, 2] rfl)
    exact LOOP (c9 - 1) 1 0 _ _ ls (by omega) rfl (by omega) hw hS (lv_sub hl [0, 1, 2] rfl)
set_option maxRecDepth 100000 in
set_option maxHeartbeats 1000000 in
theorem m_corner (l : Launch) (G : Gm) (S : St) (k wh : Int32) : Pf l yX4_corner wsX4_corner ({ frames := 1, cells := 0, slots := 0, locals := 22 } : Room) [.ref (g_ad G 9 0), .int k, .int wh] G S (coM S k wh) (coMS S k wh) := by
  refine ent (cc := cX4_corner) (maxL := 3) (ret := (some .float)) (by decide) rfl (Nat.le_of_ble_eq_true rfl) ?_
  intro p e s m below meth c ls C hw hT hS hl
  obtain ⟨hx, hb, hr, hml, hown, hts, hlk⟩ := C
  have hl : lv_has ls 3 [(0, .ref (g_ad G 9 0)), (1, .int k), (2, .int wh)] := hl
  refine lv_aload_n hx hb dX4_corner_0 rfl (lv_at hl 0 rfl) ?_
  have K1 : ∀ (b9 : Bool) (H : Heap) (locs : List Loc), b9 = (kwF S k && (!(decide (wh < 0)) && !(decide (nI 11 < wh)))) → wdM G S H s → va_S (g_A G) s.heap H locs → W p l e ({ frames := 1, cells := 0, slots := 0, locals := 22 } : Room) s m ([.ref (g_ad G 9 0), .int k, .int wh] : List Value).toArray below meth c H locs 0 0 (MQ below (Qf G (coM S k wh) (coMS S k wh)) ([.ref (g_ad G 9 0), .int k, .int wh] : List Value).toArray s ({ frames := 1, cells := 0, slots := 0, locals := 22 } : Room).cells ({ frames := 1, cells := 0, slots := 0, locals := 22 } : Room).slots (g_A G)) (F0 m 24 ls [.int (bI b9), .ref (g_ad G 9 0)]) := by
    intro b9 H locs hb9 hw hS
    subst hb9
    refine lv_iconst (v := nI 1) hx hb dX4_corner_24 (by decide) ?_
    refine top_i (y := bI true) (by decide) ?_
    refine cVi ⟨hx, hb, hml, hown, hts⟩ (m_goes l G S (kwF S k && (!(decide (wh < 0)) && !(decide (nI 11 < wh)))) true) (cwV 2 hts gX4_corner_X4_goes rfl rfl rfl (by decide +kernel) ⟨(Nat.le_of_ble_eq_true rfl), (Nat.le_of_ble_eq_true rfl)⟩) hw hT hS (rcv hw hT 9 0 (by decide) rfl rfl) (As := [.int (bI (kwF S k && (!(decide (wh < 0)) && !(decide (nI 11 < wh))))), .int (bI true)]) (rest := []) rfl hl.1 rfl (Nat.le_of_ble_eq_true rfl) dX4_corner_25 ⟨(Nat.le_of_ble_eq_true rfl), (Nat.le_of_ble_eq_true rfl)⟩ (fun H locs hw hS => ?_)
    refine lv_if_ne (tgt := 33) hx hb dX4_corner_28 (by decide) (fun h2 => ?_) (fun h2 => ?_)
    · skip
      have h2 := bI_n0.mp h2
      replace hw : wdM G (okS S) H s := by rw [gs_ok h2] at hw; exact hw
      obtain ⟨kn, hkn, rfl, hth⟩ := kw_nat (and_l (and_l h2))
      obtain ⟨wn, hwn, rfl⟩ := wh_nat (by decide) (and_r (and_l h2))
      have kN9 : kN (nI kn) = kn := kN_nI (by omega)
      have wN9 : kN (nI wn) = wn := kN_nI (by omega)
      refine lv_iload_n hx hb dX4_corner_33 rfl (lv_at hl 2 rfl) ?_
      refine lv_bipush (v := nI 6) hx hb dX4_corner_34 (by decide) ?_
      refine lv_icmp_ge (tgt := 53) hx hb dX4_corner_36 (by decide) (fun h3 => ?_) (fun h3 => ?_)
      · skip
        have h3 : 6 ≤ wn := (nI_leI (by omega) (by omega)).mp h3
        refine lv_aload_n hx hb dX4_corner_53 rfl (lv_at hl 0 rfl) ?_
        refine gf hx hb hown hts hw hT 9 0 (by decide) (ci := 4) rfl rfl (fun _ h => List.mem_cons_of_mem _ (List.mem_append_right _ h)) 6 (by decide) (List.mem_of_getElem? (i := 2) rfl) (v := .ref (g_ad G 10 1)) rfl dX4_corner_54 ?_
        refine lv_bipush (v := nI 6) hx hb dX4_corner_57 (by decide) ?_
        refine lv_iload_n hx hb dX4_corner_59 rfl (lv_at hl 1 rfl) ?_
        refine lv_imul hx hb dX4_corner_60 ?_
        refine top_i (y := nI (6 * kn)) (pk_mul 6 kn) ?_
        refine lv_iload_n hx hb dX4_corner_61 rfl (lv_at hl 2 rfl) ?_
        refine lv_iadd hx hb dX4_corner_62 ?_
        refine top_i (y := nI (6 * kn + wn)) (nI_add (6 * kn) wn) ?_
        refine lv_bipush (v := nI 6) hx hb dX4_corner_63 (by decide) ?_
        refine lv_isub hx hb dX4_corner_65 ?_
        refine top_i (y := nI (6 * kn + wn - 6)) (pk_sub (by omega)) ?_
        refine afl hx hb hw hT 10 1 (by decide) (f := mFS (okS S) 1) rfl (6 * kn + wn - 6) (show 6 * kn + wn - 6 < 3072 by omega) (by decide) dX4_corner_66 ?_
        exact rf hx hb hlk hr (by unfold coMS; rw [gs_ok h2]; exact hw) hS (by unfold coM; rw [if_pos h2, kN9, wN9, if_neg (nI_nlt (by omega) (by omega))]; rfl) (Nat.le_of_ble_eq_true rfl) (Nat.le_of_ble_eq_true rfl) dX4_corner_67
      · skip
        have h3 : ¬ 6 ≤ wn := fun z => h3 ((nI_leI (by omega) (by omega)).mpr z)
        refine lv_aload_n hx hb dX4_corner_39 rfl (lv_at hl 0 rfl) ?_
        refine gf hx hb hown hts hw hT 9 0 (by decide) (ci := 4) rfl rfl (fun _ h => List.mem_cons_of_mem _ (List.mem_append_right _ h)) 7 (by decide) (List.mem_of_getElem? (i := 1) rfl) (v := .ref (g_ad G 10 2)) rfl dX4_corner_40 ?_
        refine lv_bipush (v := nI 6) hx hb dX4_corner_43 (by decide) ?_
        refine lv_iload_n hx hb dX4_corner_45 rfl (lv_at hl 1 rfl) ?_
        refine lv_imul hx hb dX4_corner_46 ?_
        refine top_i (y := nI (6 * kn)) (pk_mul 6 kn) ?_
        refine lv_iload_n hx hb dX4_corner_47 rfl (lv_at hl 2 rfl) ?_
        refine lv_iadd hx hb dX4_corner_48 ?_
        refine top_i (y := nI (6 * kn + wn)) (nI_add (6 * kn) wn) ?_
        refine afl hx hb hw hT 10 2 (by decide) (f := mFS (okS S) 2) rfl (6 * kn + wn) (show 6 * kn + wn < 3072 by omega) (by decide) dX4_corner_49 ?_
        refine lv_goto (tgt := 67) hx hb dX4_corner_50 (by decide) ?_
        exact rf hx hb hlk hr (by unfold coMS; rw [gs_ok h2]; exact hw) hS (by unfold coM; rw [if_pos h2, kN9, wN9, if_pos (nI_lt (by omega) (by decide))]; rfl) (Nat.le_of_ble_eq_true rfl) (Nat.le_of_ble_eq_true rfl) dX4_corner_67
    · skip
      have h2 := bI_0.mp h2
      refine lv_fconst0 hx hb dX4_corner_31 ?_
      exact rf hx hb hlk hr (by unfold coMS; exact hw) hS (by unfold coM; rw [if_neg (by rw [h2]; decide)]) (Nat.le_of_ble_eq_true rfl) (Nat.le_of_ble_eq_true rfl) dX4_corner_32
  refine lv_aload_n hx hb dX4_corner_1 rfl (lv_at hl 0 rfl) ?_
  refine lv_iload_n hx hb dX4_corner_2 rfl (lv_at hl 1 rfl) ?_
  refine cVi ⟨hx, hb, hml, hown, hts⟩ (m_known l G S k) (cwV 1 hts gX4_corner_X4_known rfl rfl rfl (by decide +kernel) ⟨(Nat.le_of_ble_eq_true rfl), (Nat.le_of_ble_eq_true rfl)⟩) hw hT hS (rcv hw hT 9 0 (by decide) rfl rfl) (As := [.int k]) (rest := [.ref (g_ad G 9 0)]) rfl hl.1 rfl (Nat.le_of_ble_eq_true rfl) dX4_corner_3 ⟨(Nat.le_of_ble_eq_true rfl), (Nat.le_of_ble_eq_true rfl)⟩ (fun H locs hw hS => ?_)
  refine lv_if_eq (tgt := 23) hx hb dX4_corner_6 (by decide) (fun h4 => ?_) (fun h4 => ?_)
  · skip
    have h4 := bI_0.mp h4
    refine lv_iconst (v := nI 0) hx hb dX4_corner_23 (by decide) ?_
    refine top_i (y := bI false) (by decide) ?_
    exact K1 false _ _ (by first | (simp only [h4, Bool.true_and, Bool.false_and, Bool.and_true, Bool.and_false]; done) | simp [h4]) hw hS
  · skip
    have h4 := bI_n0.mp h4
    refine lv_iload_n hx hb dX4_corner_9 rfl (lv_at hl 2 rfl) ?_
    refine lv_if_lt (tgt := 23) hx hb dX4_corner_10 (by decide) (fun h5 => ?_) (fun h5 => ?_)
    · skip
      refine lv_iconst (v := nI 0) hx hb dX4_corner_23 (by decide) ?_
      refine top_i (y := bI false) (by decide) ?_
      exact K1 false _ _ (by first | (simp only [h4, h5, Bool.true_and, Bool.false_and, Bool.and_true, Bool.and_false]; done) | simp [h4, h5]) hw hS
    · skip
      refine lv_iload_n hx hb dX4_corner_13 rfl (lv_at hl 2 rfl) ?_
      refine lv_bipush (v := nI 11) hx hb dX4_corner_14 (by decide) ?_
      refine lv_icmp_gt (tgt := 23) hx hb dX4_corner_16 (by decide) (fun h6 => ?_) (fun h6 => ?_)
      · skip
        refine lv_iconst (v := nI 0) hx hb dX4_corner_23 (by decide) ?_
        refine top_i (y := bI false) (by decide) ?_
        exact K1 false _ _ (by first | (simp only [h4, h5, h6, Bool.true_and, Bool.false_and, Bool.and_true, Bool.and_false]; done) | simp [h4, h5, h6]) hw hS
      · skip
        refine lv_iconst (v := nI 1) hx hb dX4_corner_19 (by decide) ?_
        refine lv_goto (tgt := 24) hx hb dX4_corner_20 (by decide) ?_
        refine top_i (y := bI true) (by decide) ?_
        exact K1 true _ _ (by first | (simp only [h4, h5, h6, Bool.true_and, Bool.false_and, Bool.and_true, Bool.and_false]; done) | simp [h4, h5, h6]) hw hS
set_option maxRecDepth 100000 in
set_option maxHeartbeats 1000000 in
theorem m_about (l : Launch) (G : Gm) (S : St) (k wh : Int32) : Pi l yX4_about wsX4_about ({ frames := 3, cells := 0, slots := 0, locals := 67 } : Room) [.ref (g_ad G 9 0), .int k, .int wh] G S (aoM S k wh) (aoMS S k wh) := by
  refine ent (cc := cX4_about) (maxL := 3) (ret := (some .int)) (by decide) rfl (Nat.le_of_ble_eq_true rfl) ?_
  intro p e s m below meth c ls C hw hT hS hl
  obtain ⟨hx, hb, hr, hml, hown, hts, hlk⟩ := C
  have hl : lv_has ls 3 [(0, .ref (g_ad G 9 0)), (1, .int k), (2, .int wh)] := hl
  refine lv_aload_n hx hb dX4_about_0 rfl (lv_at hl 0 rfl) ?_
  have K1 : ∀ (b9 : Bool) (H : Heap) (locs : List Loc), b9 = (kwF S k && (!(decide (wh < 0)) && !(decide (nI 3 < wh)))) → wdM G S H s → va_S (g_A G) s.heap H locs → W p l e ({ frames := 3, cells := 0, slots := 0, locals := 67 } : Room) s m ([.ref (g_ad G 9 0), .int k, .int wh] : List Value).toArray below meth c H locs 0 0 (MQ below (Qi G (aoM S k wh) (aoMS S k wh)) ([.ref (g_ad G 9 0), .int k, .int wh] : List Value).toArray s ({ frames := 3, cells := 0, slots := 0, locals := 67 } : Room).cells ({ frames := 3, cells := 0, slots := 0, locals := 67 } : Room).slots (g_A G)) (F0 m 23 ls [.int (bI b9), .ref (g_ad G 9 0)]) := by
    intro b9 H locs hb9 hw hS
    subst hb9
    refine lv_iconst (v := nI 1) hx hb dX4_about_23 (by decide) ?_
    refine top_i (y := bI true) (by decide) ?_
    refine cVi ⟨hx, hb, hml, hown, hts⟩ (m_goes l G S (kwF S k && (!(decide (wh < 0)) && !(decide (nI 3 < wh)))) true) (cwV 2 hts gX4_about_X4_goes rfl rfl rfl (by decide +kernel) ⟨(Nat.le_of_ble_eq_true rfl), (Nat.le_of_ble_eq_true rfl)⟩) hw hT hS (rcv hw hT 9 0 (by decide) rfl rfl) (As := [.int (bI (kwF S k && (!(decide (wh < 0)) && !(decide (nI 3 < wh))))), .int (bI true)]) (rest := []) rfl hl.1 rfl (Nat.le_of_ble_eq_true rfl) dX4_about_24 ⟨(Nat.le_of_ble_eq_true rfl), (Nat.le_of_ble_eq_true rfl)⟩ (fun H locs hw hS => ?_)
    refine lv_if_ne (tgt := 32) hx hb dX4_about_27 (by decide) (fun h2 => ?_) (fun h2 => ?_)
    · skip
      have h2 := bI_n0.mp h2
      replace hw : wdM G (okS S) H s := by rw [gs_ok h2] at hw; exact hw
      obtain ⟨kn, hkn, rfl, hth⟩ := kw_nat (and_l (and_l h2))
      have kN9 : kN (nI kn) = kn := kN_nI (by omega)
      refine lv_iload_n hx hb dX4_about_32 rfl (lv_at hl 2 rfl) ?_
      refine lv_if_ne (tgt := 45) hx hb dX4_about_33 (by decide) (fun h3 => ?_) (fun h3 => ?_)
      · skip
        refine lv_iload_n hx hb dX4_about_45 rfl (lv_at hl 2 rfl) ?_
        refine lv_iconst (v := nI 1) hx hb dX4_about_46 (by decide) ?_
        refine lv_icmp_ne (tgt := 59) hx hb dX4_about_47 (by decide) (fun h4 => ?_) (fun h4 => ?_)
        · skip
          refine lv_iload_n hx hb dX4_about_59 rfl (lv_at hl 2 rfl) ?_
          refine lv_iconst (v := nI 2) hx hb dX4_about_60 (by decide) ?_
          refine lv_icmp_ne (tgt := 72) hx hb dX4_about_61 (by decide) (fun h5 => ?_) (fun h5 => ?_)
          · skip
            refine lv_aload_n hx hb dX4_about_72 rfl (lv_at hl 0 rfl) ?_
            refine gf hx hb hown hts hw hT 9 0 (by decide) (ci := 4) rfl rfl (fun _ h => List.mem_cons_of_mem _ (List.mem_append_right _ h)) 3 (by decide) (List.mem_of_getElem? (i := 3) rfl) (v := .ref (g_ad G 12 1)) rfl dX4_about_73 ?_
            refine lv_iload_n hx hb dX4_about_76 rfl (lv_at hl 1 rfl) ?_
            refine azl hx hb hw hT 12 1 (by decide) (f := (fun q => bI (mZS (okS S) 1 q))) rfl kn (show kn < 512 by omega) (by decide) dX4_about_77 ?_
            refine lv_if_eq (tgt := 85) hx hb dX4_about_78 (by decide) (fun h6 => ?_) (fun h6 => ?_)
            · skip
              have h6 := bI_0.mp h6
              refine lv_iconst (v := nI 0) hx hb dX4_about_85 (by decide) ?_
              exact ri hx hb hlk hr (by unfold aoMS; rw [gs_ok h2]; exact hw) hS (by unfold aoM; rw [if_pos h2, kN9, if_neg h3, if_neg h4, if_neg h5]; show _ = bI (mZS (okS S) 1 kn); rw [h6]; rfl) (vp_nar_int _) (Nat.le_of_ble_eq_true rfl) (Nat.le_of_ble_eq_true rfl) dX4_about_86
            · skip
              have h6 := bI_n0.mp h6
              refine lv_iconst (v := nI 1) hx hb dX4_about_81 (by decide) ?_
              refine lv_goto (tgt := 86) hx hb dX4_about_82 (by decide) ?_
              exact ri hx hb hlk hr (by unfold aoMS; rw [gs_ok h2]; exact hw) hS (by unfold aoM; rw [if_pos h2, kN9, if_neg h3, if_neg h4, if_neg h5]; show _ = bI (mZS (okS S) 1 kn); rw [h6]; rfl) (vp_nar_int _) (Nat.le_of_ble_eq_true rfl) (Nat.le_of_ble_eq_true rfl) dX4_about_86
          · skip
            refine lv_aload_n hx hb dX4_about_64 rfl (lv_at hl 0 rfl) ?_
            refine lv_iload_n hx hb dX4_about_65 rfl (lv_at hl 1 rfl) ?_
            refine cVi ⟨hx, hb, hml, hown, hts⟩ (m_pairsOf l G (okS S) kn (by omega)) (cwV 1 hts gX4_about_X4_pairsOf rfl rfl rfl (by decide +kernel) ⟨(Nat.le_of_ble_eq_true rfl), (Nat.le_of_ble_eq_true rfl)⟩) hw hT hS (rcv hw hT 9 0 (by decide) rfl rfl) (As := [.int (nI kn)]) (rest := []) rfl hl.1 rfl (Nat.le_of_ble_eq_true rfl) dX4_about_66 ⟨(Nat.le_of_ble_eq_true rfl), (Nat.le_of_ble_eq_true rfl)⟩ (fun H locs hw hS => ?_)
            refine lv_goto (tgt := 86) hx hb dX4_about_69 (by decide) ?_
            exact ri hx hb hlk hr (by unfold aoMS; rw [gs_ok h2]; exact hw) hS (by unfold aoM; rw [if_pos h2, kN9, if_neg h3, if_neg h4, if_pos h5]) (vp_nar_int _) (Nat.le_of_ble_eq_true rfl) (Nat.le_of_ble_eq_true rfl) dX4_about_86
        · skip
          refine lv_aload_n hx hb dX4_about_50 rfl (lv_at hl 0 rfl) ?_
          refine gf hx hb hown hts hw hT 9 0 (by decide) (ci := 4) rfl rfl (fun _ h => List.mem_cons_of_mem _ (List.mem_append_right _ h)) 5 (by decide) (List.mem_of_getElem? (i := 2) rfl) (v := .ref (g_ad G 11 1)) rfl dX4_about_51 ?_
          refine lv_iload_n hx hb dX4_about_54 rfl (lv_at hl 1 rfl) ?_
          refine ail hx hb hw hT 11 1 (by decide) (f := mIS (okS S) 1) rfl kn (show kn < 512 by omega) (by decide) dX4_about_55 ?_
          refine lv_goto (tgt := 86) hx hb dX4_about_56 (by decide) ?_
          exact ri hx hb hlk hr (by unfold aoMS; rw [gs_ok h2]; exact hw) hS (by unfold aoM; rw [if_pos h2, kN9, if_neg h3, if_pos h4]; rfl) (vp_nar_int _) (Nat.le_of_ble_eq_true rfl) (Nat.le_of_ble_eq_true rfl) dX4_about_86
      · skip
        refine lv_aload_n hx hb dX4_about_36 rfl (lv_at hl 0 rfl) ?_
        refine gf hx hb hown hts hw hT 9 0 (by decide) (ci := 4) rfl rfl (fun _ h => List.mem_cons_of_mem _ (List.mem_append_right _ h)) 4 (by decide) (List.mem_of_getElem? (i := 1) rfl) (v := .ref (g_ad G 11 0)) rfl dX4_about_37 ?_
        refine lv_iload_n hx hb dX4_about_40 rfl (lv_at hl 1 rfl) ?_
        refine ail hx hb hw hT 11 0 (by decide) (f := mIS (okS S) 0) rfl kn (show kn < 512 by omega) (by decide) dX4_about_41 ?_
        refine lv_goto (tgt := 86) hx hb dX4_about_42 (by decide) ?_
        exact ri hx hb hlk hr (by unfold aoMS; rw [gs_ok h2]; exact hw) hS (by unfold aoM; rw [if_pos h2, kN9, if_pos h3]; rfl) (vp_nar_int _) (Nat.le_of_ble_eq_true rfl) (Nat.le_of_ble_eq_true rfl) dX4_about_86
    · skip
      have h2 := bI_0.mp h2
      refine lv_iconst (v := nI 0) hx hb dX4_about_30 (by decide) ?_
      exact ri hx hb hlk hr (by unfold aoMS; exact hw) hS (by unfold aoM; rw [if_neg (by rw [h2]; decide)]) (vp_nar_int _) (Nat.le_of_ble_eq_true rfl) (Nat.le_of_ble_eq_true rfl) dX4_about_31
  refine lv_aload_n hx hb dX4_about_1 rfl (lv_at hl 0 rfl) ?_
  refine lv_iload_n hx hb dX4_about_2 rfl (lv_at hl 1 rfl) ?_
  refine cVi ⟨hx, hb, hml, hown, hts⟩ (m_known l G S k) (cwV 1 hts gX4_about_X4_known rfl rfl rfl (by decide +kernel) ⟨(Nat.le_of_ble_eq_true rfl), (Nat.le_of_ble_eq_true rfl)⟩) hw hT hS (rcv hw hT 9 0 (by decide) rfl rfl) (As := [.int k]) (rest := [.ref (g_ad G 9 0)]) rfl hl.1 rfl (Nat.le_of_ble_eq_true rfl) dX4_about_3 ⟨(Nat.le_of_ble_eq_true rfl), (Nat.le_of_ble_eq_true rfl)⟩ (fun H locs hw hS => ?_)
  refine lv_if_eq (tgt := 22) hx hb dX4_about_6 (by decide) (fun h7 => ?_) (fun h7 => ?_)
  · skip
    have h7 := bI_0.mp h7
    refine lv_iconst (v := nI 0) hx hb dX4_about_22 (by decide) ?_
    refine top_i (y := bI false) (by decide) ?_
    exact K1 false _ _ (by first | (simp only [h7, Bool.true_and, Bool.false_and, Bool.and_true, Bool.and_false]; done) | simp [h7]) hw hS
  · skip
    have h7 := bI_n0.mp h7
    refine lv_iload_n hx hb dX4_about_9 rfl (lv_at hl 2 rfl) ?_
    refine lv_if_lt (tgt := 22) hx hb dX4_about_10 (by decide) (fun h8 => ?_) (fun h8 => ?_)
    · skip
      refine lv_iconst (v := nI 0) hx hb dX4_about_22 (by decide) ?_
      refine top_i (y := bI false) (by decide) ?_
      exact K1 false _ _ (by first | (simp only [h7, h8, Bool.true_and, Bool.false_and, Bool.and_true, Bool.and_false]; done) | simp [h7, h8]) hw hS
    · skip
      refine lv_iload_n hx hb dX4_about_13 rfl (lv_at hl 2 rfl) ?_
      refine lv_iconst (v := nI 3) hx hb dX4_about_14 (by decide) ?_
      refine lv_icmp_gt (tgt := 22) hx hb dX4_about_15 (by decide) (fun h9 => ?_) (fun h9 => ?_)
      · skip
        refine lv_iconst (v := nI 0) hx hb dX4_about_22 (by decide) ?_
        refine top_i (y := bI false) (by decide) ?_
        exact K1 false _ _ (by first | (simp only [h7, h8, h9, Bool.true_and, Bool.false_and, Bool.and_true, Bool.and_false]; done) | simp [h7, h8, h9]) hw hS
      · skip
        refine lv_iconst (v := nI 1) hx hb dX4_about_18 (by decide) ?_
        refine lv_goto (tgt := 23) hx hb dX4_about_19 (by decide) ?_
        refine top_i (y := bI true) (by decide) ?_
        exact K1 true _ _ (by first | (simp only [h7, h8, h9, Bool.true_and, Bool.false_and, Bool.and_true, Bool.and_false]; done) | simp [h7, h8, h9]) hw hS
set_option maxRecDepth 100000 in
set_option maxHeartbeats 1000000 in
theorem m_paired (l : Launch) (G : Gm) (S : St) (a b : Int32) : Pi l yX4_paired wsX4_paired ({ frames := 2, cells := 0, slots := 0, locals := 44 } : Room) [.ref (g_ad G 9 0), .int a, .int b] G S (bI (pdM S a b)) (pdMS S a b) := by
  refine ent (cc := cX4_paired) (maxL := 3) (ret := (some .boolean)) (by decide) rfl (Nat.le_of_ble_eq_true rfl) ?_
  intro p e s m below meth c ls C hw hT hS hl
  obtain ⟨hx, hb, hr, hml, hown, hts, hlk⟩ := C
  have hl : lv_has ls 3 [(0, .ref (g_ad G 9 0)), (1, .int a), (2, .int b)] := hl
  refine lv_aload_n hx hb dX4_paired_0 rfl (lv_at hl 0 rfl) ?_
  have K1 : ∀ (b9 : Bool) (H : Heap) (locs : List Loc), b9 = (kwF S a && kwF S b) → wdM G S H s → va_S (g_A G) s.heap H locs → W p l e ({ frames := 2, cells := 0, slots := 0, locals := 44 } : Room) s m ([.ref (g_ad G 9 0), .int a, .int b] : List Value).toArray below meth c H locs 0 0 (MQ below (Qi G (bI (pdM S a b)) (pdMS S a b)) ([.ref (g_ad G 9 0), .int a, .int b] : List Value).toArray s ({ frames := 2, cells := 0, slots := 0, locals := 44 } : Room).cells ({ frames := 2, cells := 0, slots := 0, locals := 44 } : Room).slots (g_A G)) (F0 m 22 ls [.int (bI b9), .ref (g_ad G 9 0)]) := by
    intro b9 H locs hb9 hw hS
    subst hb9
    refine lv_iconst (v := nI 1) hx hb dX4_paired_22 (by decide) ?_
    refine top_i (y := bI true) (by decide) ?_
    refine cVi ⟨hx, hb, hml, hown, hts⟩ (m_goes l G S (kwF S a && kwF S b) true) (cwV 2 hts gX4_paired_X4_goes rfl rfl rfl (by decide +kernel) ⟨(Nat.le_of_ble_eq_true rfl), (Nat.le_of_ble_eq_true rfl)⟩) hw hT hS (rcv hw hT 9 0 (by decide) rfl rfl) (As := [.int (bI (kwF S a && kwF S b)), .int (bI true)]) (rest := []) rfl hl.1 rfl (Nat.le_of_ble_eq_true rfl) dX4_paired_23 ⟨(Nat.le_of_ble_eq_true rfl), (Nat.le_of_ble_eq_true rfl)⟩ (fun H locs hw hS => ?_)
    refine lv_if_eq (tgt := 47) hx hb dX4_paired_26 (by decide) (fun h2 => ?_) (fun h2 => ?_)
    · skip
      have h2 := bI_0.mp h2
      refine lv_iconst (v := nI 0) hx hb dX4_paired_47 (by decide) ?_
      refine top_i (y := bI false) (by decide) ?_
      exact ri hx hb hlk hr (by unfold pdMS; exact hw) hS (congrArg bI (by unfold pdM; rw [h2]; rfl)) (bI_nar _) (Nat.le_of_ble_eq_true rfl) (Nat.le_of_ble_eq_true rfl) dX4_paired_48
    · skip
      have h2 := bI_n0.mp h2
      replace hw : wdM G (okS S) H s := by rw [gs_ok h2] at hw; exact hw
      obtain ⟨an, han, rfl, hth⟩ := kw_nat (and_l (and_l h2))
      obtain ⟨bn, hbn, rfl, hth2⟩ := kw_nat (and_r (and_l h2))
      have aN9 : kN (nI an) = an := kN_nI (by omega)
      have bN9 : kN (nI bn) = bn := kN_nI (by omega)
      refine lv_iload_n hx hb dX4_paired_29 rfl (lv_at hl 1 rfl) ?_
      refine lv_iload_n hx hb dX4_paired_30 rfl (lv_at hl 2 rfl) ?_
      refine lv_icmp_eq (tgt := 47) hx hb dX4_paired_31 (by decide) (fun h3 => ?_) (fun h3 => ?_)
      · skip
        have h3 : an = bn := (nI_eq (by omega) (by omega)).mp h3
        refine lv_iconst (v := nI 0) hx hb dX4_paired_47 (by decide) ?_
        refine top_i (y := bI false) (by decide) ?_
        exact ri hx hb hlk hr (by unfold pdMS; rw [gs_ok h2]; exact hw) hS (congrArg bI (by unfold pdM; rw [h2, decide_eq_true (congrArg nI h3)]; rfl)) (bI_nar _) (Nat.le_of_ble_eq_true rfl) (Nat.le_of_ble_eq_true rfl) dX4_paired_48
      · skip
        have h3 : ¬ an = bn := fun z => h3 ((nI_eq (by omega) (by omega)).mpr z)
        refine lv_aload_n hx hb dX4_paired_34 rfl (lv_at hl 0 rfl) ?_
        refine lv_iload_n hx hb dX4_paired_35 rfl (lv_at hl 1 rfl) ?_
        refine lv_iload_n hx hb dX4_paired_36 rfl (lv_at hl 2 rfl) ?_
        refine cVi ⟨hx, hb, hml, hown, hts⟩ (m_isPair l G (okS S) an (by omega) bn (by omega)) (cwV 2 hts gX4_paired_X4_isPair rfl rfl rfl (by decide +kernel) ⟨(Nat.le_of_ble_eq_true rfl), (Nat.le_of_ble_eq_true rfl)⟩) hw hT hS (rcv hw hT 9 0 (by decide) rfl rfl) (As := [.int (nI an), .int (nI bn)]) (rest := []) rfl hl.1 rfl (Nat.le_of_ble_eq_true rfl) dX4_paired_37 ⟨(Nat.le_of_ble_eq_true rfl), (Nat.le_of_ble_eq_true rfl)⟩ (fun H locs hw hS => ?_)
        refine lv_if_eq (tgt := 47) hx hb dX4_paired_40 (by decide) (fun h4 => ?_) (fun h4 => ?_)
        · skip
          have h4 := bI_0.mp h4
          refine lv_iconst (v := nI 0) hx hb dX4_paired_47 (by decide) ?_
          refine top_i (y := bI false) (by decide) ?_
          exact ri hx hb hlk hr (by unfold pdMS; rw [gs_ok h2]; exact hw) hS (congrArg bI (by unfold pdM; rw [h2, decide_eq_false (fun z => h3 ((nI_eq (by omega) (by omega)).mp z)), aN9, bN9, h4]; rfl)) (bI_nar _) (Nat.le_of_ble_eq_true rfl) (Nat.le_of_ble_eq_true rfl) dX4_paired_48
        · skip
          have h4 := bI_n0.mp h4
          refine lv_iconst (v := nI 1) hx hb dX4_paired_43 (by decide) ?_
          refine lv_goto (tgt := 48) hx hb dX4_paired_44 (by decide) ?_
          refine top_i (y := bI true) (by decide) ?_
          exact ri hx hb hlk hr (by unfold pdMS; rw [gs_ok h2]; exact hw) hS (congrArg bI (by unfold pdM; rw [h2, decide_eq_false (fun z => h3 ((nI_eq (by omega) (by omega)).mp z)), aN9, bN9, h4]; rfl)) (bI_nar _) (Nat.le_of_ble_eq_true rfl) (Nat.le_of_ble_eq_true rfl) dX4_paired_48
  refine lv_aload_n hx hb dX4_paired_1 rfl (lv_at hl 0 rfl) ?_
  refine lv_iload_n hx hb dX4_paired_2 rfl (lv_at hl 1 rfl) ?_
  refine cVi ⟨hx, hb, hml, hown, hts⟩ (m_known l G S a) (cwV 1 hts gX4_paired_X4_known rfl rfl rfl (by decide +kernel) ⟨(Nat.le_of_ble_eq_true rfl), (Nat.le_of_ble_eq_true rfl)⟩) hw hT hS (rcv hw hT 9 0 (by decide) rfl rfl) (As := [.int a]) (rest := [.ref (g_ad G 9 0)]) rfl hl.1 rfl (Nat.le_of_ble_eq_true rfl) dX4_paired_3 ⟨(Nat.le_of_ble_eq_true rfl), (Nat.le_of_ble_eq_true rfl)⟩ (fun H locs hw hS => ?_)
  refine lv_if_eq (tgt := 21) hx hb dX4_paired_6 (by decide) (fun h5 => ?_) (fun h5 => ?_)
  · skip
    have h5 := bI_0.mp h5
    refine lv_iconst (v := nI 0) hx hb dX4_paired_21 (by decide) ?_
    refine top_i (y := bI false) (by decide) ?_
    exact K1 false _ _ (by first | (simp only [h5, Bool.true_and, Bool.false_and, Bool.and_true, Bool.and_false]; done) | simp [h5]) hw hS
  · skip
    have h5 := bI_n0.mp h5
    refine lv_aload_n hx hb dX4_paired_9 rfl (lv_at hl 0 rfl) ?_
    refine lv_iload_n hx hb dX4_paired_10 rfl (lv_at hl 2 rfl) ?_
    refine cVi ⟨hx, hb, hml, hown, hts⟩ (m_known l G S b) (cwV 1 hts gX4_paired_X4_known rfl rfl rfl (by decide +kernel) ⟨(Nat.le_of_ble_eq_true rfl), (Nat.le_of_ble_eq_true rfl)⟩) hw hT hS (rcv hw hT 9 0 (by decide) rfl rfl) (As := [.int b]) (rest := [.ref (g_ad G 9 0)]) rfl hl.1 rfl (Nat.le_of_ble_eq_true rfl) dX4_paired_11 ⟨(Nat.le_of_ble_eq_true rfl), (Nat.le_of_ble_eq_true rfl)⟩ (fun H locs hw hS => ?_)
    refine lv_if_eq (tgt := 21) hx hb dX4_paired_14 (by decide) (fun h6 => ?_) (fun h6 => ?_)
    · skip
      have h6 := bI_0.mp h6
      refine lv_iconst (v := nI 0) hx hb dX4_paired_21 (by decide) ?_
      refine top_i (y := bI false) (by decide) ?_
      exact K1 false _ _ (by first | (simp only [h5, h6, Bool.true_and, Bool.false_and, Bool.and_true, Bool.and_false]; done) | simp [h5, h6]) hw hS
    · skip
      have h6 := bI_n0.mp h6
      refine lv_iconst (v := nI 1) hx hb dX4_paired_17 (by decide) ?_
      refine lv_goto (tgt := 22) hx hb dX4_paired_18 (by decide) ?_
      refine top_i (y := bI true) (by decide) ?_
      exact K1 true _ _ (by first | (simp only [h5, h6, Bool.true_and, Bool.false_and, Bool.and_true, Bool.and_false]; done) | simp [h5, h6]) hw hS
