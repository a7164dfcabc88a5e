/-! PairFinder: its private methods with loops -/
set_option maxRecDepth 100000 in
set_option maxHeartbeats 1000000 in
theorem c_appendFound (l : Launch) (G : Gm) (S : St) (b : Nat) (x : UInt32) (c9 : Nat) (hc : nfS S 2 = nI c9) (hc5 : c9 < 512) : Pv l yX3_appendFound wsX3_appendFound ({ frames := 0, cells := 0, slots := 0, locals := 0 } : Room) [.ref (g_ad G 0 0), .int (nI b), .float x] G S (fnS S c9 b x) := by
  refine ent (cc := cX3_appendFound) (maxL := 3) (ret := none) (by decide) rfl (Nat.le_of_ble_eq_true rfl) ?_
  intro p e s m below meth c ls C hw hT hS hl
  obtain ⟨hx, hb, hr, hml, hown, hts, hlk⟩ := C
  have hl : lv_has ls 3 [(0, .ref (g_ad G 0 0)), (1, .int (nI b)), (2, .float x)] := hl
  refine lv_aload_n hx hb dX3_appendFound_0 rfl (lv_at hl 0 rfl) ?_
  refine gf hx hb hown hts hw hT 0 0 (by decide) (ci := 3) rfl rfl (fun _ h => List.mem_cons_of_mem _ (List.mem_append_right _ h)) 10 (by decide) (List.mem_of_getElem? (i := 1) rfl) (v := .int (nfS S 2)) rfl dX3_appendFound_1 ?_
  refine top_i (y := nI c9) hc ?_
  refine lv_sipush (v := nI 512) hx hb dX3_appendFound_4 (by decide) ?_
  refine lv_icmp_ge (tgt := 40) hx hb dX3_appendFound_7 (by decide) (fun q => absurd q (nI_ge hc5 (by decide))) (fun _ => ?_)
  refine lv_aload_n hx hb dX3_appendFound_10 rfl (lv_at hl 0 rfl) ?_
  refine gf hx hb hown hts hw hT 0 0 (by decide) (ci := 3) rfl rfl (fun _ h => List.mem_cons_of_mem _ (List.mem_append_right _ h)) 8 (by decide) (List.mem_of_getElem? (i := 2) rfl) (v := .ref (g_ad G 7 0)) rfl dX3_appendFound_11 ?_
  refine lv_aload_n hx hb dX3_appendFound_14 rfl (lv_at hl 0 rfl) ?_
  refine gf hx hb hown hts hw hT 0 0 (by decide) (ci := 3) rfl rfl (fun _ h => List.mem_cons_of_mem _ (List.mem_append_right _ h)) 10 (by decide) (List.mem_of_getElem? (i := 1) rfl) (v := .int (nfS S 2)) rfl dX3_appendFound_15 ?_
  refine top_i (y := nI c9) hc ?_
  refine lv_iload_n hx hb dX3_appendFound_18 rfl (lv_at hl 1 rfl) ?_
  refine ais (S' := (fbU S (va_up (fbS S) c9 (nI b)))) hx hb hw hT hS 7 0 (by decide) (f := fbS S) rfl c9 (show c9 < 512 by omega) (by decide) (mup_fb G S (va_up (fbS S) c9 (nI b))) dX3_appendFound_19 (fun H locs hw hS => ?_)
  refine lv_aload_n hx hb dX3_appendFound_20 rfl (lv_at hl 0 rfl) ?_
  refine gf hx hb hown hts hw hT 0 0 (by decide) (ci := 3) rfl rfl (fun _ h => List.mem_cons_of_mem _ (List.mem_append_right _ h)) 9 (by decide) (List.mem_of_getElem? (i := 3) rfl) (v := .ref (g_ad G 8 0)) rfl dX3_appendFound_21 ?_
  refine lv_aload_n hx hb dX3_appendFound_24 rfl (lv_at hl 0 rfl) ?_
  refine gf hx hb hown hts hw hT 0 0 (by decide) (ci := 3) rfl rfl (fun _ h => List.mem_cons_of_mem _ (List.mem_append_right _ h)) 10 (by decide) (List.mem_of_getElem? (i := 1) rfl) (v := .int (nfS S 2)) rfl dX3_appendFound_25 ?_
  refine top_i (y := nI c9) hc ?_
  refine lv_fload_n hx hb dX3_appendFound_28 rfl (lv_at hl 2 rfl) ?_
  refine afs (S' := (ffU (fbU S (va_up (fbS S) c9 (nI b))) (va_up (ffS S) c9 x))) hx hb hw hT hS 8 0 (by decide) (f := ffS S) rfl c9 (show c9 < 512 by omega) (by decide) (mup_ff G (fbU S (va_up (fbS S) c9 (nI b))) (va_up (ffS S) c9 x)) dX3_appendFound_29 (fun H locs hw hS => ?_)
  refine lv_aload_n hx hb dX3_appendFound_30 rfl (lv_at hl 0 rfl) ?_
  refine lv_dup hx hb dX3_appendFound_31 rfl ?_
  refine gf hx hb hown hts hw hT 0 0 (by decide) (ci := 3) rfl rfl (fun _ h => List.mem_cons_of_mem _ (List.mem_append_right _ h)) 10 (by decide) (List.mem_of_getElem? (i := 1) rfl) (v := .int (nfS S 2)) rfl dX3_appendFound_32 ?_
  refine top_i (y := nI c9) hc ?_
  refine lv_iconst (v := nI 1) hx hb dX3_appendFound_35 (by decide) ?_
  refine lv_iadd hx hb dX3_appendFound_36 ?_
  refine top_i (y := nI (c9 + 1)) (nI_add c9 1) ?_
  refine pf (S' := (nfU (ffU (fbU S (va_up (fbS S) c9 (nI b))) (va_up (ffS S) c9 x)) (va_up (nfS (ffU (fbU S (va_up (fbS S) c9 (nI b))) (va_up (ffS S) c9 x))) 2 (nI (c9 + 1))))) hx hb hown hts hw hT hS 0 0 (by decide) (ci := 3) rfl rfl (fun _ h => List.mem_cons_of_mem _ (List.mem_append_right _ h)) tyX3 tyX3_ok nmX3 10 (by decide) (List.mem_of_getElem? (i := 1) rfl) rfl (ty := .int) (by decide +kernel) (vp_nar_int _) rfl (Nat.le_of_ble_eq_true rfl) (mup_nf2 G (ffU (fbU S (va_up (fbS S) c9 (nI b))) (va_up (ffS S) c9 x)) (nI (c9 + 1))) dX3_appendFound_37 (fun H locs hw hS => ?_)
  exact rv hx hb hlk hr hw hS  (Nat.le_of_ble_eq_true rfl) (Nat.le_of_ble_eq_true rfl) dX3_appendFound_40
set_option maxRecDepth 100000 in
set_option maxHeartbeats 1000000 in
theorem c_arePair (l : Launch) (G : Gm) (S : St) (hi1 : (ipS S).1 < 4) (hi2 : (ipS S).2 < 4) (a : Nat) (ha : a < 512) (b : Nat) (hb5 : b < 512) : Pi l yX3_arePair wsX3_arePair ({ frames := 1, cells := 0, slots := 0, locals := 21 } : Room) [.ref (g_ad G 0 0), .int (nI a), .int (nI b)] G S (bI (apB S a b)) S := by
  refine ent (cc := cX3_arePair) (maxL := 3) (ret := (some .boolean)) (by decide) rfl (Nat.le_of_ble_eq_true rfl) ?_
  intro p e s m below meth c ls C hw hT hS hl
  obtain ⟨hx, hb, hr, hml, hown, hts, hlk⟩ := C
  have hl : lv_has ls 3 [(0, .ref (g_ad G 0 0)), (1, .int (nI a)), (2, .int (nI b))] := hl
  refine lv_iload_n hx hb dX3_arePair_0 rfl (lv_at hl 1 rfl) ?_
  refine lv_iload_n hx hb dX3_arePair_1 rfl (lv_at hl 2 rfl) ?_
  have hpc := pcode_lt ha hb5
  refine lv_icmp_eq (tgt := 24) hx hb dX3_arePair_2 (by decide) (fun h1 => ?_) (fun h1 => ?_)
  · skip
    have h1 : a = b := (nI_eq (by omega) (by omega)).mp h1
    refine lv_iconst (v := nI 0) hx hb dX3_arePair_24 (by decide) ?_
    refine top_i (y := bI false) (by decide) ?_
    exact ri hx hb hlk hr hw hS (congrArg bI (by simp [apB, h1])) (bI_nar _) (Nat.le_of_ble_eq_true rfl) (Nat.le_of_ble_eq_true rfl) dX3_arePair_25
  · skip
    have h1 : ¬ a = b := fun z => h1 ((nI_eq (by omega) (by omega)).mpr z)
    refine lv_aload_n hx hb dX3_arePair_5 rfl (lv_at hl 0 rfl) ?_
    refine gf hx hb hown hts hw hT 0 0 (by decide) (ci := 3) rfl rfl (fun _ h => List.mem_cons_of_mem _ (List.mem_append_left _ (List.mem_append_right _ h))) 3 (by decide) (List.mem_of_getElem? (i := 1) rfl) (v := .ref (g_ad G 5 ((ipS S).1))) rfl dX3_arePair_6 ?_
    refine lv_iload_n hx hb dX3_arePair_9 rfl (lv_at hl 1 rfl) ?_
    refine lv_iload_n hx hb dX3_arePair_10 rfl (lv_at hl 2 rfl) ?_
    refine cSi ⟨hx, hb, hml, hown, hts⟩ (c_pairCode l G S a (by omega) b (by omega)) (va_cwS 2 hts gX3_arePair_X3_pairCode rfl rfl rfl (by decide +kernel) ⟨(Nat.le_of_ble_eq_true rfl), (Nat.le_of_ble_eq_true rfl)⟩) hw hT hS (As := [.int (nI a), .int (nI b)]) (rest := [.ref (g_ad G 5 ((ipS S).1))]) rfl hl.1 rfl (Nat.le_of_ble_eq_true rfl) dX3_arePair_11 ⟨(Nat.le_of_ble_eq_true rfl), (Nat.le_of_ble_eq_true rfl)⟩ (fun H locs hw hS => ?_)
    refine cVi ⟨hx, hb, hml, hown, hts⟩ (c_holds l G S ((ipS S).1) (show (ipS S).1 < 4 by omega) (pcode a b) (by omega)) (cwV 1 hts gX3_arePair_X2_holds rfl rfl rfl (by decide +kernel) ⟨(Nat.le_of_ble_eq_true rfl), (Nat.le_of_ble_eq_true rfl)⟩) hw hT hS (rcv hw hT 5 ((ipS S).1) (show (ipS S).1 < 4 by omega) rfl rfl) (As := [.int (nI (pcode a b))]) (rest := []) rfl hl.1 rfl (Nat.le_of_ble_eq_true rfl) dX3_arePair_14 ⟨(Nat.le_of_ble_eq_true rfl), (Nat.le_of_ble_eq_true rfl)⟩ (fun H locs hw hS => ?_)
    refine lv_if_eq (tgt := 24) hx hb dX3_arePair_17 (by decide) (fun h2 => ?_) (fun h2 => ?_)
    · skip
      have h2 := bI_0.mp h2
      refine lv_iconst (v := nI 0) hx hb dX3_arePair_24 (by decide) ?_
      refine top_i (y := bI false) (by decide) ?_
      exact ri hx hb hlk hr hw hS (congrArg bI (by simp [apB, h1, h2])) (bI_nar _) (Nat.le_of_ble_eq_true rfl) (Nat.le_of_ble_eq_true rfl) dX3_arePair_25
    · skip
      have h2 := bI_n0.mp h2
      refine lv_iconst (v := nI 1) hx hb dX3_arePair_20 (by decide) ?_
      refine lv_goto (tgt := 25) hx hb dX3_arePair_21 (by decide) ?_
      refine top_i (y := bI true) (by decide) ?_
      exact ri hx hb hlk hr hw hS (congrArg bI (by simp [apB, h1, h2])) (bI_nar _) (Nat.le_of_ble_eq_true rfl) (Nat.le_of_ble_eq_true rfl) dX3_arePair_25
set_option maxRecDepth 100000 in
set_option maxHeartbeats 1000000 in
theorem c_pairsOf (l : Launch) (G : Gm) (S : St) (hi1 : (ipS S).1 < 4) (hi2 : (ipS S).2 < 4) (k : Nat) (hk : k < 512) : Pi l yX3_pairsOf wsX3_pairsOf ({ frames := 2, cells := 0, slots := 0, locals := 43 } : Room) [.ref (g_ad G 0 0), .int (nI k)] G S (nI (ctB (apB S k) 512)) S := by
  refine ent (cc := cX3_pairsOf) (maxL := 4) (ret := (some .int)) (by decide) rfl (Nat.le_of_ble_eq_true rfl) ?_
  intro p e s m below meth c ls C hw hT hS hl
  obtain ⟨hx, hb, hr, hml, hown, hts, hlk⟩ := C
  have hl : lv_has ls 4 [(0, .ref (g_ad G 0 0)), (1, .int (nI k))] := hl
  refine lv_iconst (v := nI 0) hx hb dX3_pairsOf_0 (by decide) ?_
  refine lv_istore_n (lv' := [(2, .int (nI 0)), (0, .ref (g_ad G 0 0)), (1, .int (nI k))]) hx hb dX3_pairsOf_1 rfl hl (by decide) rfl (fun ls hl => ?_)
  refine lv_iconst (v := nI 0) hx hb dX3_pairsOf_2 (by decide) ?_
  refine lv_istore_n (lv' := [(3, .int (nI 0)), (2, .int (nI 0)), (0, .ref (g_ad G 0 0)), (1, .int (nI k))]) hx hb dX3_pairsOf_3 rfl hl (by decide) rfl (fun ls hl => ?_)
  have LOOP : ∀ (n o : Nat) (ac : Int32) (H : Heap) (locs : List Loc) (ls : Array Slot), o + n = 512 → (ac = nI (ctB (apB S k) o)) → wdM G S H s → va_S (g_A G) s.heap H locs → lv_has ls 4 [(3, .int (nI o)), (2, .int ac), (0, .ref (g_ad G 0 0)), (1, .int (nI k))] → W p l e ({ frames := 2, cells := 0, slots := 0, locals := 43 } : Room) s m ([.ref (g_ad G 0 0), .int (nI k)] : List Value).toArray below meth c H locs 0 0 (MQ below (Qi G (nI (ctB (apB S k) 512)) S) ([.ref (g_ad G 0 0), .int (nI k)] : List Value).toArray s ({ frames := 2, cells := 0, slots := 0, locals := 43 } : Room).cells ({ frames := 2, cells := 0, slots := 0, locals := 43 } : Room).slots (g_A G)) (F0 m 4 ls []) := by
    intro n
    induction n with
    | zero =>
      intro o ac H locs ls hn ha9 hw hS hl
      obtain rfl : 512 = o := by omega
      refine lv_iload_n hx hb dX3_pairsOf_4 rfl (lv_at hl 0 rfl) ?_
      refine lv_sipush (v := nI 512) hx hb dX3_pairsOf_5 (by decide) ?_
      refine lv_icmp_ge (tgt := 29) hx hb dX3_pairsOf_8 (by decide) (fun _ => ?_) (fun q => absurd (by decide) q)
      refine lv_iload_n hx hb dX3_pairsOf_29 rfl (lv_at hl 1 rfl) ?_
      exact ri hx hb hlk hr hw hS ha9 (vp_nar_int _) (Nat.le_of_ble_eq_true rfl) (Nat.le_of_ble_eq_true rfl) dX3_pairsOf_30
    | succ n ih =>
      intro o ac H locs ls hn ha9 hw hS hl
      have ho : o < 512 := by omega
      refine lv_iload_n hx hb dX3_pairsOf_4 rfl (lv_at hl 0 rfl) ?_
      refine lv_sipush (v := nI 512) hx hb dX3_pairsOf_5 (by decide) ?_
      refine lv_icmp_ge (tgt := 29) hx hb dX3_pairsOf_8 (by decide) (fun q => absurd q (nI_ge ho (by decide))) (fun _ => ?_)
      refine lv_aload_n hx hb dX3_pairsOf_11 rfl (lv_at hl 2 rfl) ?_
      refine lv_iload_n hx hb dX3_pairsOf_12 rfl (lv_at hl 3 rfl) ?_
      refine lv_iload_n hx hb dX3_pairsOf_13 rfl (lv_at hl 0 rfl) ?_
      refine cVi ⟨hx, hb, hml, hown, hts⟩ (c_arePair l G S (by omega) (by omega) k (by omega) o (by omega)) (cwV 2 hts gX3_pairsOf_X3_arePair rfl rfl rfl (by decide +kernel) ⟨(Nat.le_of_ble_eq_true rfl), (Nat.le_of_ble_eq_true rfl)⟩) hw hT hS (rcv hw hT 0 0 (by decide) rfl rfl) (As := [.int (nI k), .int (nI o)]) (rest := []) rfl hl.1 rfl (Nat.le_of_ble_eq_true rfl) dX3_pairsOf_14 ⟨(Nat.le_of_ble_eq_true rfl), (Nat.le_of_ble_eq_true rfl)⟩ (fun H locs hw hS => ?_)
      refine lv_if_eq (tgt := 23) hx hb dX3_pairsOf_17 (by decide) (fun h3 => ?_) (fun h3 => ?_)
      · skip
        have h3 := bI_0.mp h3
        refine lv_iinc (v := nI (o + 1)) (lv' := [(3, .int (nI (o + 1))), (2, .int ac), (0, .ref (g_ad G 0 0)), (1, .int (nI k))]) hx hb dX3_pairsOf_23 hl (k := 0) rfl (nI_add o 1) (by decide) rfl (fun ls hl => ?_)
        refine lv_goto (tgt := 4) hx hb dX3_pairsOf_26 (by decide) ?_
        exact ih (o + 1) ac H locs ls (by omega) (by rw [ha9]; simp [ctB, h3, nI_1]) hw hS (lv_sub hl [0, 1, 2, 3] rfl)
      · skip
        have h3 := bI_n0.mp h3
        refine lv_iinc (v := ac + 1) (lv' := [(2, .int (ac + 1)), (3, .int (nI o)), (0, .ref (g_ad G 0 0)), (1, .int (nI k))]) hx hb dX3_pairsOf_20 hl (k := 1) rfl rfl (by decide) rfl (fun ls hl => ?_)
        refine lv_iinc (v := nI (o + 1)) (lv' := [(3, .int (nI (o + 1))), (2, .int (ac + 1)), (0, .ref (g_ad G 0 0)), (1, .int (nI k))]) hx hb dX3_pairsOf_23 hl (k := 1) rfl (nI_add o 1) (by decide) rfl (fun ls hl => ?_)
        refine lv_goto (tgt := 4) hx hb dX3_pairsOf_26 (by decide) ?_
        exact ih (o + 1) (ac + 1) H locs ls (by omega) (by rw [ha9]; simp [ctB, h3, nI_1]) hw hS (lv_sub hl [0, 1, 2, 3] rfl)
  exact LOOP 512 0 (nI 0) _ _ ls (by omega) rfl hw hS (lv_sub hl [0, 1, 2, 3] rfl)
set_option maxRecDepth 100000 in
set_option maxHeartbeats 1000000 in
theorem c_touchedBodies (l : Launch) (G : Gm) (S : St)  : Pi l yX3_touchedBodies wsX3_touchedBodies ({ frames := 0, cells := 0, slots := 0, locals := 0 } : Room) [.ref (g_ad G 0 0)] G S (nI (ctB (tcS S) 512)) S := by
  refine ent (cc := cX3_touchedBodies) (maxL := 3) (ret := (some .int)) (by decide) rfl (Nat.le_of_ble_eq_true rfl) ?_
  intro p e s m below meth c ls C hw hT hS hl
  obtain ⟨hx, hb, hr, hml, hown, hts, hlk⟩ := C
  have hl : lv_has ls 3 [(0, .ref (g_ad G 0 0))] := hl
  refine lv_iconst (v := nI 0) hx hb dX3_touchedBodies_0 (by decide) ?_
  refine lv_istore_n (lv' := [(1, .int (nI 0)), (0, .ref (g_ad G 0 0))]) hx hb dX3_touchedBodies_1 rfl hl (by decide) rfl (fun ls hl => ?_)
  refine lv_iconst (v := nI 0) hx hb dX3_touchedBodies_2 (by decide) ?_
  refine lv_istore_n (lv' := [(2, .int (nI 0)), (1, .int (nI 0)), (0, .ref (g_ad G 0 0))]) hx hb dX3_touchedBodies_3 rfl hl (by decide) rfl (fun ls hl => ?_)
  have LOOP : ∀ (n o : Nat) (ac : Int32) (H : Heap) (locs : List Loc) (ls : Array Slot), o + n = 512 → (ac = nI (ctB (tcS S) o)) → wdM G S H s → va_S (g_A G) s.heap H locs → lv_has ls 3 [(2, .int (nI o)), (1, .int ac), (0, .ref (g_ad G 0 0))] → W p l e ({ frames := 0, cells := 0, slots := 0, locals := 0 } : Room) s m ([.ref (g_ad G 0 0)] : List Value).toArray below meth c H locs 0 0 (MQ below (Qi G (nI (ctB (tcS S) 512)) S) ([.ref (g_ad G 0 0)] : List Value).toArray s ({ frames := 0, cells := 0, slots := 0, locals := 0 } : Room).cells ({ frames := 0, cells := 0, slots := 0, locals := 0 } : Room).slots (g_A G)) (F0 m 4 ls []) := by
    intro n
    induction n with
    | zero =>
      intro o ac H locs ls hn ha9 hw hS hl
      obtain rfl : 512 = o := by omega
      refine lv_iload_n hx hb dX3_touchedBodies_4 rfl (lv_at hl 0 rfl) ?_
      refine lv_sipush (v := nI 512) hx hb dX3_touchedBodies_5 (by decide) ?_
      refine lv_icmp_ge (tgt := 32) hx hb dX3_touchedBodies_8 (by decide) (fun _ => ?_) (fun q => absurd (by decide) q)
      refine lv_iload_n hx hb dX3_touchedBodies_32 rfl (lv_at hl 1 rfl) ?_
      exact ri hx hb hlk hr hw hS ha9 (vp_nar_int _) (Nat.le_of_ble_eq_true rfl) (Nat.le_of_ble_eq_true rfl) dX3_touchedBodies_33
    | succ n ih =>
      intro o ac H locs ls hn ha9 hw hS hl
      have ho : o < 512 := by omega
      refine lv_iload_n hx hb dX3_touchedBodies_4 rfl (lv_at hl 0 rfl) ?_
      refine lv_sipush (v := nI 512) hx hb dX3_touchedBodies_5 (by decide) ?_
      refine lv_icmp_ge (tgt := 32) hx hb dX3_touchedBodies_8 (by decide) (fun q => absurd q (nI_ge ho (by decide))) (fun _ => ?_)
      refine lv_aload_n hx hb dX3_touchedBodies_11 rfl (lv_at hl 2 rfl) ?_
      refine gf hx hb hown hts hw hT 0 0 (by decide) (ci := 3) rfl rfl (fun _ h => List.mem_cons_of_mem _ (List.mem_append_left _ (List.mem_append_right _ h))) 1 (by decide) (List.mem_of_getElem? (i := 1) rfl) (v := .ref (g_ad G 3 0)) rfl dX3_touchedBodies_12 ?_
      refine lv_iload_n hx hb dX3_touchedBodies_15 rfl (lv_at hl 0 rfl) ?_
      refine abl hx hb hw hT o (show o < 512 by omega) dX3_touchedBodies_16 ?_
      refine gf hx hb hown hts hw hT 4 o (show o < 512 by omega) (ci := 0) rfl rfl (fun _ h => List.mem_cons_of_mem _ (List.mem_append_right _ h)) 5 (by decide) (List.mem_of_getElem? (i := 2) rfl) (v := .int (bI (tcS S o))) rfl dX3_touchedBodies_17 ?_
      refine lv_if_eq (tgt := 26) hx hb dX3_touchedBodies_20 (by decide) (fun h3 => ?_) (fun h3 => ?_)
      · skip
        have h3 := bI_0.mp h3
        refine lv_iinc (v := nI (o + 1)) (lv' := [(2, .int (nI (o + 1))), (1, .int ac), (0, .ref (g_ad G 0 0))]) hx hb dX3_touchedBodies_26 hl (k := 0) rfl (nI_add o 1) (by decide) rfl (fun ls hl => ?_)
        refine lv_goto (tgt := 4) hx hb dX3_touchedBodies_29 (by decide) ?_
        exact ih (o + 1) ac H locs ls (by omega) (by rw [ha9]; simp [ctB, h3, nI_1]) hw hS (lv_sub hl [0, 1, 2] rfl)
      · skip
        have h3 := bI_n0.mp h3
        refine lv_iinc (v := ac + 1) (lv' := [(1, .int (ac + 1)), (2, .int (nI o)), (0, .ref (g_ad G 0 0))]) hx hb dX3_touchedBodies_23 hl (k := 1) rfl rfl (by decide) rfl (fun ls hl => ?_)
        refine lv_iinc (v := nI (o + 1)) (lv' := [(2, .int (nI (o + 1))), (1, .int (ac + 1)), (0, .ref (g_ad G 0 0))]) hx hb dX3_touchedBodies_26 hl (k := 1) rfl (nI_add o 1) (by decide) rfl (fun ls hl => ?_)
        refine lv_goto (tgt := 4) hx hb dX3_touchedBodies_29 (by decide) ?_
        exact ih (o + 1) (ac + 1) H locs ls (by omega) (by rw [ha9]; simp [ctB, h3, nI_1]) hw hS (lv_sub hl [0, 1, 2] rfl)
  exact LOOP 512 0 (nI 0) _ _ ls (by omega) rfl hw hS (lv_sub hl [0, 1, 2] rfl)
/-- does the row stay good: n more steps from S on -/
def rgB (dx dy dz : UInt32) : Nat → St → Bool
  | 0, _ => true
  | n + 1, S => if gdF (bxS (mvS S 1 dx dy dz) 1) = true then rgB dx dy dz n (mvS S 1 dx dy dz) else false
def rgS (dx dy dz : UInt32) : Nat → St → St
  | 0, S => S
  | n + 1, S => if gdF (bxS (mvS S 1 dx dy dz) 1) = true then rgS dx dy dz n (mvS S 1 dx dy dz) else mvS S 1 dx dy dz
set_option maxRecDepth 100000 in
set_option maxHeartbeats 1000000 in
theorem c_rowStaysGood (l : Launch) (G : Gm) (S : St) (N : Nat) (hN : 1 ≤ N) (hN5 : N ≤ 512) (dx dy dz : UInt32) (hm : mvB dx dy dz = true) (hp : Gb (bxS S 0)) : Pi l yX3_rowStaysGood wsX3_rowStaysGood ({ frames := 2, cells := 0, slots := 0, locals := 81 } : Room) [.ref (g_ad G 0 0), .int (nI N), .float dx, .float dy, .float dz] G S (bI (rgB dx dy dz (N - 1) (cpF6 S 1 0))) (rgS dx dy dz (N - 1) (cpF6 S 1 0)) := by
  refine ent (cc := cX3_rowStaysGood) (maxL := 6) (ret := (some .boolean)) (by decide) rfl (Nat.le_of_ble_eq_true rfl) ?_
  intro p e s m below meth c ls C hw hT hS hl
  obtain ⟨hx, hb, hr, hml, hown, hts, hlk⟩ := C
  have hl : lv_has ls 6 [(0, .ref (g_ad G 0 0)), (1, .int (nI N)), (2, .float dx), (3, .float dy), (4, .float dz)] := hl
  refine lv_aload_n hx hb dX3_rowStaysGood_0 rfl (lv_at hl 0 rfl) ?_
  refine gf hx hb hown hts hw hT 0 0 (by decide) (ci := 3) rfl rfl (fun _ h => List.mem_cons_of_mem _ (List.mem_append_left _ (List.mem_append_right _ h))) 11 (by decide) (List.mem_of_getElem? (i := 1) rfl) (v := .ref (g_ad G 1 1)) rfl dX3_rowStaysGood_1 ?_
  refine lv_aload_n hx hb dX3_rowStaysGood_4 rfl (lv_at hl 0 rfl) ?_
  refine gf hx hb hown hts hw hT 0 0 (by decide) (ci := 3) rfl rfl (fun _ h => List.mem_cons_of_mem _ (List.mem_append_left _ (List.mem_append_right _ h))) 0 (by decide) (List.mem_of_getElem? (i := 2) rfl) (v := .ref (g_ad G 1 0)) rfl dX3_rowStaysGood_5 ?_
  refine cVv ⟨hx, hb, hml, hown, hts⟩ (c_copyFrom l G S 1 (by decide) 0 (by decide) (by decide)) (cwV 1 hts gX3_rowStaysGood_X1_copyFrom rfl rfl rfl (by decide +kernel) ⟨(Nat.le_of_ble_eq_true rfl), (Nat.le_of_ble_eq_true rfl)⟩) hw hT hS (rcv hw hT 1 1 (by decide) rfl rfl) (As := [.ref (g_ad G 1 0)]) (rest := []) rfl hl.1 rfl (Nat.le_of_ble_eq_true rfl) dX3_rowStaysGood_8 ⟨(Nat.le_of_ble_eq_true rfl), (Nat.le_of_ble_eq_true rfl)⟩ (fun H locs hw hS => ?_)
  refine lv_iconst (v := nI 1) hx hb dX3_rowStaysGood_11 (by decide) ?_
  refine lv_istore (lv' := [(5, .int (nI 1)), (0, .ref (g_ad G 0 0)), (1, .int (nI N)), (2, .float dx), (3, .float dy), (4, .float dz)]) hx hb dX3_rowStaysGood_12 hl (by decide) rfl (fun ls hl => ?_)
  have LOOP : ∀ (n i : Nat) (S2 : St) (H : Heap) (locs : List Loc) (ls : Array Slot), i + n = N → (rgB dx dy dz n S2 = rgB dx dy dz (N - 1) (cpF6 S 1 0)) → (rgS dx dy dz n S2 = rgS dx dy dz (N - 1) (cpF6 S 1 0)) → (Gb (bxS S2 1)) → wdM G S2 H s → va_S (g_A G) s.heap H locs → lv_has ls 6 [(5, .int (nI i)), (0, .ref (g_ad G 0 0)), (1, .int (nI N)), (2, .float dx), (3, .float dy), (4, .float dz)] → W p l e ({ frames := 2, cells := 0, slots := 0, locals := 81 } : Room) s m ([.ref (g_ad G 0 0), .int (nI N), .float dx, .float dy, .float dz] : List Value).toArray below meth c H locs 0 0 (MQ below (Qi G (bI (rgB dx dy dz (N - 1) (cpF6 S 1 0))) (rgS dx dy dz (N - 1) (cpF6 S 1 0))) ([.ref (g_ad G 0 0), .int (nI N), .float dx, .float dy, .float dz] : List Value).toArray s ({ frames := 2, cells := 0, slots := 0, locals := 81 } : Room).cells ({ frames := 2, cells := 0, slots := 0, locals := 81 } : Room).slots (g_A G)) (F0 m 14 ls []) := by
    intro n
    induction n with
    | zero =>
      intro i S2 H locs ls hn hq0 hq hG hw hS hl
      obtain rfl : N = i := by omega
      refine lv_iload hx hb dX3_rowStaysGood_14 (lv_at hl 0 rfl) ?_
      refine lv_iload_n hx hb dX3_rowStaysGood_16 rfl (lv_at hl 2 rfl) ?_
      refine lv_icmp_ge (tgt := 49) hx hb dX3_rowStaysGood_17 (by decide) (fun _ => ?_) (fun q => absurd (Int32.le_refl _) q)
      refine lv_iconst (v := nI 1) hx hb dX3_rowStaysGood_49 (by decide) ?_
      refine top_i (y := bI true) (by decide) ?_
      exact ri hx hb hlk hr (by rw [← hq]; exact hw) hS (congrArg bI (by rw [← hq0]; rfl)) (bI_nar _) (Nat.le_of_ble_eq_true rfl) (Nat.le_of_ble_eq_true rfl) dX3_rowStaysGood_50
    | succ n ih =>
      intro i S2 H locs ls hn hq0 hq hG hw hS hl
      have hi : i < N := by omega
      refine lv_iload hx hb dX3_rowStaysGood_14 (lv_at hl 0 rfl) ?_
      refine lv_iload_n hx hb dX3_rowStaysGood_16 rfl (lv_at hl 2 rfl) ?_
      refine lv_icmp_ge (tgt := 49) hx hb dX3_rowStaysGood_17 (by decide) (fun q => absurd q (nI_ge hi (by omega))) (fun _ => ?_)
      refine lv_aload_n hx hb dX3_rowStaysGood_20 rfl (lv_at hl 1 rfl) ?_
      refine gf hx hb hown hts hw hT 0 0 (by decide) (ci := 3) rfl rfl (fun _ h => List.mem_cons_of_mem _ (List.mem_append_left _ (List.mem_append_right _ h))) 11 (by decide) (List.mem_of_getElem? (i := 1) rfl) (v := .ref (g_ad G 1 1)) rfl dX3_rowStaysGood_21 ?_
      refine lv_fload_n hx hb dX3_rowStaysGood_24 rfl (lv_at hl 3 rfl) ?_
      refine lv_fload_n hx hb dX3_rowStaysGood_25 rfl (lv_at hl 4 rfl) ?_
      refine lv_fload hx hb dX3_rowStaysGood_26 (lv_at hl 5 rfl) ?_
      refine cVv ⟨hx, hb, hml, hown, hts⟩ (c_moveBy l G S2 1 (by decide) dx dy dz (mv_ok hG hm)) (cwV 3 hts gX3_rowStaysGood_X1_moveBy rfl rfl rfl (by decide +kernel) ⟨(Nat.le_of_ble_eq_true rfl), (Nat.le_of_ble_eq_true rfl)⟩) hw hT hS (rcv hw hT 1 1 (by decide) rfl rfl) (As := [.float dx, .float dy, .float dz]) (rest := []) rfl hl.1 rfl (Nat.le_of_ble_eq_true rfl) dX3_rowStaysGood_28 ⟨(Nat.le_of_ble_eq_true rfl), (Nat.le_of_ble_eq_true rfl)⟩ (fun H locs hw hS => ?_)
      refine lv_aload_n hx hb dX3_rowStaysGood_31 rfl (lv_at hl 1 rfl) ?_
      refine gf hx hb hown hts hw hT 0 0 (by decide) (ci := 3) rfl rfl (fun _ h => List.mem_cons_of_mem _ (List.mem_append_left _ (List.mem_append_right _ h))) 11 (by decide) (List.mem_of_getElem? (i := 1) rfl) (v := .ref (g_ad G 1 1)) rfl dX3_rowStaysGood_32 ?_
      refine cVi ⟨hx, hb, hml, hown, hts⟩ (c_isGood l G (mvS S2 1 dx dy dz) 1 (by decide)) (cwV 0 hts gX3_rowStaysGood_X1_isGood rfl rfl rfl (by decide +kernel) ⟨(Nat.le_of_ble_eq_true rfl), (Nat.le_of_ble_eq_true rfl)⟩) hw hT hS (rcv hw hT 1 1 (by decide) rfl rfl) (As := []) (rest := []) rfl hl.1 rfl (Nat.le_of_ble_eq_true rfl) dX3_rowStaysGood_35 ⟨(Nat.le_of_ble_eq_true rfl), (Nat.le_of_ble_eq_true rfl)⟩ (fun H locs hw hS => ?_)
      refine lv_if_ne (tgt := 43) hx hb dX3_rowStaysGood_38 (by decide) (fun h3 => ?_) (fun h3 => ?_)
      · skip
        have h3 := bI_n0.mp h3
        refine lv_iinc (v := nI (i + 1)) (lv' := [(5, .int (nI (i + 1))), (0, .ref (g_ad G 0 0)), (1, .int (nI N)), (2, .float dx), (3, .float dy), (4, .float dz)]) hx hb dX3_rowStaysGood_43 hl (k := 0) rfl (nI_add i 1) (by decide) rfl (fun ls hl => ?_)
        refine lv_goto (tgt := 14) hx hb dX3_rowStaysGood_46 (by decide) ?_
        exact ih (i + 1) ((mvS S2 1 dx dy dz)) H locs ls (by omega) (by rw [← hq0]; simp [rgB, h3]) (by rw [← hq]; simp [rgS, h3]) (gd_at h3) hw hS (lv_sub hl [0, 1, 2, 3, 4, 5] rfl)
      · skip
        have h3 := bI_0.mp h3
        refine lv_iconst (v := nI 0) hx hb dX3_rowStaysGood_41 (by decide) ?_
        refine top_i (y := bI false) (by decide) ?_
        exact ri hx hb hlk hr (by rw [← hq]; simp only [rgS, h3, Bool.false_eq_true, if_false]; exact hw) hS (congrArg bI (by rw [← hq0]; simp [rgB, h3])) (bI_nar _) (Nat.le_of_ble_eq_true rfl) (Nat.le_of_ble_eq_true rfl) dX3_rowStaysGood_42
  exact LOOP (N - 1) 1 ((cpF6 S 1 0)) _ _ ls (by omega) rfl rfl (by unfold cpF6; rw [bx_s]; exact cp_gb hp) hw hS (lv_sub hl [0, 1, 2, 3, 4, 5] rfl)
def sbV (S : St) (k : Nat) (dx dy dz : UInt32) : St := mvS (cpF6 S 1 (2 * k + 2)) 1 dx dy dz
def sbB (S : St) (k : Nat) (dx dy dz : UInt32) : Bool := gdF (bxS (sbV S k dx dy dz) 1) && !(mtB (sbV S k dx dy dz) k 1)
def sbS (S : St) (k : Nat) (dx dy dz : UInt32) : St := if gdF (bxS (sbV S k dx dy dz) 1) = true then mtS (sbV S k dx dy dz) k 1 dx dy dz else sbV S k dx dy dz
set_option maxRecDepth 100000 in
set_option maxHeartbeats 1000000 in
theorem c_shiftBody (l : Launch) (G : Gm) (S : St) (k : Nat) (hk : k < 512) (dx dy dz : UInt32) (hm : mvB dx dy dz = true) (hG : Gb (bxS S (2 * k + 2))) : Pi l yX3_shiftBody wsX3_shiftBody ({ frames := 3, cells := 0, slots := 0, locals := 105 } : Room) [.ref (g_ad G 0 0), .ref (g_ad G 4 k), .float dx, .float dy, .float dz] G S (bI (sbB S k dx dy dz)) (sbS S k dx dy dz) := by
  refine ent (cc := cX3_shiftBody) (maxL := 5) (ret := (some .boolean)) (by decide) rfl (Nat.le_of_ble_eq_true rfl) ?_
  intro p e s m below meth c ls C hw hT hS hl
  obtain ⟨hx, hb, hr, hml, hown, hts, hlk⟩ := C
  have hl : lv_has ls 5 [(0, .ref (g_ad G 0 0)), (1, .ref (g_ad G 4 k)), (2, .float dx), (3, .float dy), (4, .float dz)] := hl
  refine lv_aload_n hx hb dX3_shiftBody_0 rfl (lv_at hl 0 rfl) ?_
  refine gf hx hb hown hts hw hT 0 0 (by decide) (ci := 3) rfl rfl (fun _ h => List.mem_cons_of_mem _ (List.mem_append_left _ (List.mem_append_left _ (List.mem_append_right _ h)))) 11 (by decide) (List.mem_of_getElem? (i := 1) rfl) (v := .ref (g_ad G 1 1)) rfl dX3_shiftBody_1 ?_
  refine lv_aload_n hx hb dX3_shiftBody_4 rfl (lv_at hl 1 rfl) ?_
  refine gf hx hb hown hts hw hT 4 k (show k < 512 by omega) (ci := 0) rfl rfl (fun _ h => List.mem_cons_of_mem _ (List.mem_append_left _ (List.mem_append_right _ h))) 0 (by decide) (List.mem_of_getElem? (i := 2) rfl) (v := .ref (g_ad G 1 (2 * k + 2))) rfl dX3_shiftBody_5 ?_
  refine cVv ⟨hx, hb, hml, hown, hts⟩ (c_copyFrom l G S 1 (by decide) (2 * k + 2) (show 2 * k + 2 < 1026 by omega) (by omega)) (cwV 1 hts gX3_shiftBody_X1_copyFrom rfl rfl rfl (by decide +kernel) ⟨(Nat.le_of_ble_eq_true rfl), (Nat.le_of_ble_eq_true rfl)⟩) hw hT hS (rcv hw hT 1 1 (by decide) rfl rfl) (As := [.ref (g_ad G 1 (2 * k + 2))]) (rest := []) rfl hl.1 rfl (Nat.le_of_ble_eq_true rfl) dX3_shiftBody_8 ⟨(Nat.le_of_ble_eq_true rfl), (Nat.le_of_ble_eq_true rfl)⟩ (fun H locs hw hS => ?_)
  refine lv_aload_n hx hb dX3_shiftBody_11 rfl (lv_at hl 0 rfl) ?_
  refine gf hx hb hown hts hw hT 0 0 (by decide) (ci := 3) rfl rfl (fun _ h => List.mem_cons_of_mem _ (List.mem_append_left _ (List.mem_append_left _ (List.mem_append_right _ h)))) 11 (by decide) (List.mem_of_getElem? (i := 1) rfl) (v := .ref (g_ad G 1 1)) rfl dX3_shiftBody_12 ?_
  refine lv_fload_n hx hb dX3_shiftBody_15 rfl (lv_at hl 2 rfl) ?_
  refine lv_fload_n hx hb dX3_shiftBody_16 rfl (lv_at hl 3 rfl) ?_
  refine lv_fload hx hb dX3_shiftBody_17 (lv_at hl 4 rfl) ?_
  refine cVv ⟨hx, hb, hml, hown, hts⟩ (c_moveBy l G (cpF6 S 1 (2 * k + 2)) 1 (by decide) dx dy dz (mv_ok (by unfold cpF6; rw [bx_s]; exact cp_gb hG) hm)) (cwV 3 hts gX3_shiftBody_X1_moveBy rfl rfl rfl (by decide +kernel) ⟨(Nat.le_of_ble_eq_true rfl), (Nat.le_of_ble_eq_true rfl)⟩) hw hT hS (rcv hw hT 1 1 (by decide) rfl rfl) (As := [.float dx, .float dy, .float dz]) (rest := []) rfl hl.1 rfl (Nat.le_of_ble_eq_true rfl) dX3_shiftBody_19 ⟨(Nat.le_of_ble_eq_true rfl), (Nat.le_of_ble_eq_true rfl)⟩ (fun H locs hw hS => ?_)
  refine lv_aload_n hx hb dX3_shiftBody_22 rfl (lv_at hl 0 rfl) ?_
  refine gf hx hb hown hts hw hT 0 0 (by decide) (ci := 3) rfl rfl (fun _ h => List.mem_cons_of_mem _ (List.mem_append_left _ (List.mem_append_left _ (List.mem_append_right _ h)))) 11 (by decide) (List.mem_of_getElem? (i := 1) rfl) (v := .ref (g_ad G 1 1)) rfl dX3_shiftBody_23 ?_
  refine cVi ⟨hx, hb, hml, hown, hts⟩ (c_isGood l G (mvS (cpF6 S 1 (2 * k + 2)) 1 dx dy dz) 1 (by decide)) (cwV 0 hts gX3_shiftBody_X1_isGood rfl rfl rfl (by decide +kernel) ⟨(Nat.le_of_ble_eq_true rfl), (Nat.le_of_ble_eq_true rfl)⟩) hw hT hS (rcv hw hT 1 1 (by decide) rfl rfl) (As := []) (rest := []) rfl hl.1 rfl (Nat.le_of_ble_eq_true rfl) dX3_shiftBody_26 ⟨(Nat.le_of_ble_eq_true rfl), (Nat.le_of_ble_eq_true rfl)⟩ (fun H locs hw hS => ?_)
  refine lv_if_eq (tgt := 51) hx hb dX3_shiftBody_29 (by decide) (fun h1 => ?_) (fun h1 => ?_)
  · skip
    have h1 := bI_0.mp h1
    refine lv_iconst (v := nI 0) hx hb dX3_shiftBody_51 (by decide) ?_
    refine top_i (y := bI false) (by decide) ?_
    exact ri hx hb hlk hr (by unfold sbS; rw [if_neg (show ¬ gdF (bxS (sbV S k dx dy dz) 1) = true from by rw [show gdF (bxS (sbV S k dx dy dz) 1) = false from h1]; decide)]; exact hw) hS (congrArg bI (show false = sbB S k dx dy dz by unfold sbB; rw [show gdF (bxS (sbV S k dx dy dz) 1) = false from h1]; rfl)) (bI_nar _) (Nat.le_of_ble_eq_true rfl) (Nat.le_of_ble_eq_true rfl) dX3_shiftBody_52
  · skip
    have h1 := bI_n0.mp h1
    refine lv_aload_n hx hb dX3_shiftBody_32 rfl (lv_at hl 1 rfl) ?_
    refine lv_aload_n hx hb dX3_shiftBody_33 rfl (lv_at hl 0 rfl) ?_
    refine gf hx hb hown hts hw hT 0 0 (by decide) (ci := 3) rfl rfl (fun _ h => List.mem_cons_of_mem _ (List.mem_append_left _ (List.mem_append_left _ (List.mem_append_right _ h)))) 11 (by decide) (List.mem_of_getElem? (i := 1) rfl) (v := .ref (g_ad G 1 1)) rfl dX3_shiftBody_34 ?_
    refine lv_fload_n hx hb dX3_shiftBody_37 rfl (lv_at hl 2 rfl) ?_
    refine lv_fload_n hx hb dX3_shiftBody_38 rfl (lv_at hl 3 rfl) ?_
    refine lv_fload hx hb dX3_shiftBody_39 (lv_at hl 4 rfl) ?_
    refine cVi ⟨hx, hb, hml, hown, hts⟩ (c_moveTo l G (mvS (cpF6 S 1 (2 * k + 2)) 1 dx dy dz) k (show k < 512 by omega) 1 (by decide) (by omega) (by omega) dx dy dz (fun _ => mt_ok (gd_at h1) (by omega) hm)) (cwV 4 hts gX3_shiftBody_X0_moveTo rfl rfl rfl (by decide +kernel) ⟨(Nat.le_of_ble_eq_true rfl), (Nat.le_of_ble_eq_true rfl)⟩) hw hT hS (rcv hw hT 4 k (show k < 512 by omega) rfl rfl) (As := [.ref (g_ad G 1 1), .float dx, .float dy, .float dz]) (rest := []) rfl hl.1 rfl (Nat.le_of_ble_eq_true rfl) dX3_shiftBody_41 ⟨(Nat.le_of_ble_eq_true rfl), (Nat.le_of_ble_eq_true rfl)⟩ (fun H locs hw hS => ?_)
    refine lv_if_eq (tgt := 51) hx hb dX3_shiftBody_44 (by decide) (fun h2 => ?_) (fun h2 => ?_)
    · skip
      have h2 := bI_0.mp h2
      refine lv_iconst (v := nI 0) hx hb dX3_shiftBody_51 (by decide) ?_
      refine top_i (y := bI false) (by decide) ?_
      exact ri hx hb hlk hr (by unfold sbS; rw [if_pos (show gdF (bxS (sbV S k dx dy dz) 1) = true from h1)]; exact hw) hS (congrArg bI (show false = sbB S k dx dy dz by unfold sbB; rw [show gdF (bxS (sbV S k dx dy dz) 1) = true from h1, show (!(mtB (sbV S k dx dy dz) k 1)) = false from h2]; rfl)) (bI_nar _) (Nat.le_of_ble_eq_true rfl) (Nat.le_of_ble_eq_true rfl) dX3_shiftBody_52
    · skip
      have h2 := bI_n0.mp h2
      refine lv_iconst (v := nI 1) hx hb dX3_shiftBody_47 (by decide) ?_
      refine lv_goto (tgt := 52) hx hb dX3_shiftBody_48 (by decide) ?_
      refine top_i (y := bI true) (by decide) ?_
      exact ri hx hb hlk hr (by unfold sbS; rw [if_pos (show gdF (bxS (sbV S k dx dy dz) 1) = true from h1)]; exact hw) hS (congrArg bI (show true = sbB S k dx dy dz by unfold sbB; rw [show gdF (bxS (sbV S k dx dy dz) 1) = true from h1, show (!(mtB (sbV S k dx dy dz) k 1)) = true from h2]; rfl)) (bI_nar _) (Nat.le_of_ble_eq_true rfl) (Nat.le_of_ble_eq_true rfl) dX3_shiftBody_52
