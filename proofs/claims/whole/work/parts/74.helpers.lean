/-! The law's helpers -/
set_option maxRecDepth 100000 in
set_option maxHeartbeats 1000000 in
theorem h_low (l : Launch) (G : Gm) (S : St) (hl0 : l.stackTraces = false) (x : UInt32) (y : UInt32) (z : UInt32)  : PiN l yL_low wsL_low ({ frames := 8, cells := 1, slots := 6, locals := 127 } : Room) [.ref (g_ad G 0 0), .float x, .float y, .float z] G S (cdX xA (goodX x y z)) (enS (goodX x y z) S (pcS S 0 x y z)) := by
  refine entL (cc := cL_low) (maxL := 5) (ret := (some .int)) (hh := [(0, 7, 10, 13)]) (by decide) rfl (Nat.le_of_ble_eq_true rfl) ?_
  intro p e s m below meth c ls C hw hT hN hS htab hl
  obtain ⟨hx, hb, hr, hml, hown, hts, hlk⟩ := C
  have hl : lv_has ls 5 [(0, .ref (g_ad G 0 0)), (1, .float x), (2, .float y), (3, .float z)] := hl
  refine lv_aload_n hx hb dL_low_0 rfl (lv_at hl 0 rfl) ?_
  refine lv_fload_n hx hb dL_low_1 rfl (lv_at hl 1 rfl) ?_
  refine lv_fload_n hx hb dL_low_2 rfl (lv_at hl 2 rfl) ?_
  refine lv_fload_n hx hb dL_low_3 rfl (lv_at hl 3 rfl) ?_
  refine xVv ⟨hx, hb, hml, hown, hts⟩ (c_low l G S hl0 x y z) (cwV 3 hts gL_low_X3_low rfl rfl rfl (by decide +kernel) ⟨(Nat.le_of_ble_eq_true rfl), (Nat.le_of_ble_eq_true rfl)⟩) hw hT hS (rcv hw hT 0 0 (by decide) rfl rfl) (As := [.float x, .float y, .float z]) (rest := []) rfl hl.1 rfl (Nat.le_of_ble_eq_true rfl) dL_low_4 ⟨(Nat.le_of_ble_eq_true rfl), (Nat.le_of_ble_eq_true rfl)⟩ (fun E ce q9 H locs h1 hw hS hce hcv hcl => ?_) (fun H locs h1 hw hS => ?_)
  · skip
    obtain rfl := e_good h1
    refine vx_catch (own := RL) (name := xA) hown [] ⟨0, 7, 10, 13⟩ [] (htab.trans rfl) (fun z hz => absurd hz List.not_mem_nil) (by decide) (by decide) (hts _ (List.mem_of_getElem? (i := 1) rfl)) (va_Nw.use rfl (hT.2.2.2.1 _ (by decide +kernel))) hce hcv hcl ?_
    refine lv_astore (lv' := [(4, .ref q9), (0, .ref (g_ad G 0 0)), (1, .float x), (2, .float y), (3, .float z)]) hx hb dL_low_10 hl (by decide) rfl (fun ls hl => ?_)
    refine lv_iconst (v := nI 1) hx hb dL_low_12 (by decide) ?_
    exact ri hx hb hlk hr (by rw [en_s h1]; exact hw) hS (by rw [h1]; exact cd_1.symm) (vp_nar_int _) (Nat.le_of_ble_eq_true rfl) (Nat.le_of_ble_eq_true rfl) dL_low_13
  refine lv_goto (tgt := 14) hx hb dL_low_7 (by decide) ?_
  refine lv_iconst (v := nI 0) hx hb dL_low_14 (by decide) ?_
  exact ri hx hb hlk hr (by rw [en_n h1]; exact hw) hS (by rw [h1]; rfl) (vp_nar_int _) (Nat.le_of_ble_eq_true rfl) (Nat.le_of_ble_eq_true rfl) dL_low_15
set_option maxRecDepth 100000 in
set_option maxHeartbeats 1000000 in
theorem h_high (l : Launch) (G : Gm) (S : St) (hl0 : l.stackTraces = false) (x : UInt32) (y : UInt32) (z : UInt32)  : PiN l yL_high wsL_high ({ frames := 8, cells := 1, slots := 6, locals := 127 } : Room) [.ref (g_ad G 0 0), .float x, .float y, .float z] G S (cdX xA (goodX x y z)) (enS (goodX x y z) S (pcS S 3 x y z)) := by
  refine entL (cc := cL_high) (maxL := 5) (ret := (some .int)) (hh := [(0, 7, 10, 13)]) (by decide) rfl (Nat.le_of_ble_eq_true rfl) ?_
  intro p e s m below meth c ls C hw hT hN hS htab hl
  obtain ⟨hx, hb, hr, hml, hown, hts, hlk⟩ := C
  have hl : lv_has ls 5 [(0, .ref (g_ad G 0 0)), (1, .float x), (2, .float y), (3, .float z)] := hl
  refine lv_aload_n hx hb dL_high_0 rfl (lv_at hl 0 rfl) ?_
  refine lv_fload_n hx hb dL_high_1 rfl (lv_at hl 1 rfl) ?_
  refine lv_fload_n hx hb dL_high_2 rfl (lv_at hl 2 rfl) ?_
  refine lv_fload_n hx hb dL_high_3 rfl (lv_at hl 3 rfl) ?_
  refine xVv ⟨hx, hb, hml, hown, hts⟩ (c_high l G S hl0 x y z) (cwV 3 hts gL_high_X3_high rfl rfl rfl (by decide +kernel) ⟨(Nat.le_of_ble_eq_true rfl), (Nat.le_of_ble_eq_true rfl)⟩) hw hT hS (rcv hw hT 0 0 (by decide) rfl rfl) (As := [.float x, .float y, .float z]) (rest := []) rfl hl.1 rfl (Nat.le_of_ble_eq_true rfl) dL_high_4 ⟨(Nat.le_of_ble_eq_true rfl), (Nat.le_of_ble_eq_true rfl)⟩ (fun E ce q9 H locs h1 hw hS hce hcv hcl => ?_) (fun H locs h1 hw hS => ?_)
  · skip
    obtain rfl := e_good h1
    refine vx_catch (own := RL) (name := xA) hown [] ⟨0, 7, 10, 13⟩ [] (htab.trans rfl) (fun z hz => absurd hz List.not_mem_nil) (by decide) (by decide) (hts _ (List.mem_of_getElem? (i := 1) rfl)) (va_Nw.use rfl (hT.2.2.2.1 _ (by decide +kernel))) hce hcv hcl ?_
    refine lv_astore (lv' := [(4, .ref q9), (0, .ref (g_ad G 0 0)), (1, .float x), (2, .float y), (3, .float z)]) hx hb dL_high_10 hl (by decide) rfl (fun ls hl => ?_)
    refine lv_iconst (v := nI 1) hx hb dL_high_12 (by decide) ?_
    exact ri hx hb hlk hr (by rw [en_s h1]; exact hw) hS (by rw [h1]; exact cd_1.symm) (vp_nar_int _) (Nat.le_of_ble_eq_true rfl) (Nat.le_of_ble_eq_true rfl) dL_high_13
  refine lv_goto (tgt := 14) hx hb dL_high_7 (by decide) ?_
  refine lv_iconst (v := nI 0) hx hb dL_high_14 (by decide) ?_
  exact ri hx hb hlk hr (by rw [en_n h1]; exact hw) hS (by rw [h1]; rfl) (vp_nar_int _) (Nat.le_of_ble_eq_true rfl) (Nat.le_of_ble_eq_true rfl) dL_high_15
set_option maxRecDepth 100000 in
set_option maxHeartbeats 1000000 in
theorem h_add (l : Launch) (G : Gm) (S : St) (hl0 : l.stackTraces = false) (g : Int32) (k : Int32) (hp : Gb (bxS S 0)) : PiN l yL_add wsL_add ({ frames := 8, cells := 2, slots := 12, locals := 155 } : Room) [.ref (g_ad G 0 0), .int g, .int k, .ref (g_ad G 13 0)] G S (cdX xA (orX (padX S) (roomX S (nI 1)))) (enS (orX (padX S) (roomX S (nI 1))) S (ouU (abT 1 FP.fconst0 FP.fconst0 FP.fconst0 g k S) (va_up (ouS (abT 1 FP.fconst0 FP.fconst0 FP.fconst0 g k S)) 0 (((abD 1 FP.fconst0 FP.fconst0 FP.fconst0 g k S).2.1).toInt64)))) := by
  refine entL (cc := cL_add) (maxL := 5) (ret := (some .int)) (hh := [(0, 10, 13, 13), (0, 10, 17, 22)]) (by decide) rfl (Nat.le_of_ble_eq_true rfl) ?_
  intro p e s m below meth c ls C hw hT hN hS htab hl
  obtain ⟨hx, hb, hr, hml, hown, hts, hlk⟩ := C
  have hl : lv_has ls 5 [(0, .ref (g_ad G 0 0)), (1, .int g), (2, .int k), (3, .ref (g_ad G 13 0))] := hl
  refine lv_aload_n hx hb dL_add_0 rfl (lv_at hl 3 rfl) ?_
  refine lv_iconst (v := nI 0) hx hb dL_add_1 (by decide) ?_
  refine lv_aload_n hx hb dL_add_2 rfl (lv_at hl 0 rfl) ?_
  refine lv_iload_n hx hb dL_add_3 rfl (lv_at hl 1 rfl) ?_
  refine lv_iload_n hx hb dL_add_4 rfl (lv_at hl 2 rfl) ?_
  refine xVi ⟨hx, hb, hml, hown, hts⟩ (c_add l G S hl0 hp g k) (cwV 2 hts gL_add_X3_add rfl rfl rfl (by decide +kernel) ⟨(Nat.le_of_ble_eq_true rfl), (Nat.le_of_ble_eq_true rfl)⟩) hw hT hS (rcv hw hT 0 0 (by decide) rfl rfl) (As := [.int g, .int k]) (rest := [.int (nI 0), .ref (g_ad G 13 0)]) rfl hl.1 rfl (Nat.le_of_ble_eq_true rfl) dL_add_5 ⟨(Nat.le_of_ble_eq_true rfl), (Nat.le_of_ble_eq_true rfl)⟩ (fun E ce q9 H locs h1 hw hS hce hcv hcl => ?_) (fun H locs h1 hw hS => ?_)
  · skip
    rcases e_add h1 with rfl | rfl
    · skip
      refine vx_catch (own := RL) (name := xA) hown [] ⟨0, 10, 13, 13⟩ [⟨0, 10, 17, 22⟩] (htab.trans rfl) (fun z hz => absurd hz List.not_mem_nil) (by decide) (by decide) (hts _ (List.mem_of_getElem? (i := 1) rfl)) (va_Nw.use rfl (hT.2.2.2.1 _ (by decide +kernel))) hce hcv hcl ?_
      refine lv_astore (lv' := [(4, .ref q9), (0, .ref (g_ad G 0 0)), (1, .int g), (2, .int k), (3, .ref (g_ad G 13 0))]) hx hb dL_add_13 hl (by decide) rfl (fun ls hl => ?_)
      refine lv_iconst (v := nI 1) hx hb dL_add_15 (by decide) ?_
      exact ri hx hb hlk hr (by rw [en_s h1]; exact hw) hS (by rw [h1]; exact cd_1.symm) (vp_nar_int _) (Nat.le_of_ble_eq_true rfl) (Nat.le_of_ble_eq_true rfl) dL_add_16
    · skip
      refine vx_catch (own := RL) (name := xS) hown [⟨0, 10, 13, 13⟩] ⟨0, 10, 17, 22⟩ [] (htab.trans rfl) (fun z hz => by rw [List.mem_singleton.mp hz]; exact Or.inr ⟨by decide, xA, hts _ (List.mem_of_getElem? (i := 1) rfl), hN.1⟩) (by decide) (by decide) (hts _ (List.mem_of_getElem? (i := 2) rfl)) (va_Nw.use rfl (hT.2.2.2.1 _ (by decide +kernel))) hce hcv hcl ?_
      refine lv_astore (lv' := [(4, .ref q9), (0, .ref (g_ad G 0 0)), (1, .int g), (2, .int k), (3, .ref (g_ad G 13 0))]) hx hb dL_add_17 hl (by decide) rfl (fun ls hl => ?_)
      refine lv_iconst (v := nI 2) hx hb dL_add_19 (by decide) ?_
      exact ri hx hb hlk hr (by rw [en_s h1]; exact hw) hS (by rw [h1]; exact (cd_2 (by decide)).symm) (vp_nar_int _) (Nat.le_of_ble_eq_true rfl) (Nat.le_of_ble_eq_true rfl) dL_add_20
  refine lv_i2l hx hb dL_add_8 rfl ?_
  refine als (S' := (ouU (abT 1 FP.fconst0 FP.fconst0 FP.fconst0 g k S) (va_up (ouS (abT 1 FP.fconst0 FP.fconst0 FP.fconst0 g k S)) 0 (((abD 1 FP.fconst0 FP.fconst0 FP.fconst0 g k S).2.1).toInt64)))) hx hb hw hT hS 13 0 (by decide) (f := ouS (abT 1 FP.fconst0 FP.fconst0 FP.fconst0 g k S)) rfl 0 (by decide) (by decide) (mup_ou G (abT 1 FP.fconst0 FP.fconst0 FP.fconst0 g k S) (va_up (ouS (abT 1 FP.fconst0 FP.fconst0 FP.fconst0 g k S)) 0 (((abD 1 FP.fconst0 FP.fconst0 FP.fconst0 g k S).2.1).toInt64))) dL_add_9 (fun H locs hw hS => ?_)
  refine lv_goto (tgt := 21) hx hb dL_add_10 (by decide) ?_
  refine lv_iconst (v := nI 0) hx hb dL_add_21 (by decide) ?_
  exact ri hx hb hlk hr (by rw [en_n h1]; exact hw) hS (by rw [h1]; rfl) (vp_nar_int _) (Nat.le_of_ble_eq_true rfl) (Nat.le_of_ble_eq_true rfl) dL_add_22
set_option maxRecDepth 100000 in
set_option maxHeartbeats 1000000 in
theorem h_addRow (l : Launch) (G : Gm) (S : St) (hl0 : l.stackTraces = false) (n : Int32) (x : UInt32) (y : UInt32) (z : UInt32) (g : Int32) (k : Int32) (hp : Gb (bxS S 0)) : PiN l yL_addRow wsL_addRow ({ frames := 8, cells := 3, slots := 18, locals := 159 } : Room) [.ref (g_ad G 0 0), .int n, .float x, .float y, .float z, .int g, .int k, .ref (g_ad G 13 0)] G S (cdX xA (arX S n x y z)) (enS (arX S n x y z) (arSX S n x y z) (ouU (abT (kN n) x y z g k (arM S n x y z)) (va_up (ouS (abT (kN n) x y z g k (arM S n x y z))) 0 (((abD (kN n) x y z g k (arM S n x y z)).2.1).toInt64)))) := by
  refine entL (cc := cL_addRow) (maxL := 9) (ret := (some .int)) (hh := [(0, 18, 21, 13), (0, 18, 25, 22)]) (by decide) rfl (Nat.le_of_ble_eq_true rfl) ?_
  intro p e s m below meth c ls C hw hT hN hS htab hl
  obtain ⟨hx, hb, hr, hml, hown, hts, hlk⟩ := C
  have hl : lv_has ls 9 [(0, .ref (g_ad G 0 0)), (1, .int n), (2, .float x), (3, .float y), (4, .float z), (5, .int g), (6, .int k), (7, .ref (g_ad G 13 0))] := hl
  refine lv_aload hx hb dL_addRow_0 (lv_at hl 7 rfl) ?_
  refine lv_iconst (v := nI 0) hx hb dL_addRow_2 (by decide) ?_
  refine lv_aload_n hx hb dL_addRow_3 rfl (lv_at hl 0 rfl) ?_
  refine lv_iload_n hx hb dL_addRow_4 rfl (lv_at hl 1 rfl) ?_
  refine lv_fload_n hx hb dL_addRow_5 rfl (lv_at hl 2 rfl) ?_
  refine lv_fload_n hx hb dL_addRow_6 rfl (lv_at hl 3 rfl) ?_
  refine lv_fload hx hb dL_addRow_7 (lv_at hl 4 rfl) ?_
  refine lv_iload hx hb dL_addRow_9 (lv_at hl 5 rfl) ?_
  refine lv_iload hx hb dL_addRow_11 (lv_at hl 6 rfl) ?_
  refine xVi ⟨hx, hb, hml, hown, hts⟩ (c_addRow l G S hl0 hp n x y z g k) (cwV 6 hts gL_addRow_X3_addRow rfl rfl rfl (by decide +kernel) ⟨(Nat.le_of_ble_eq_true rfl), (Nat.le_of_ble_eq_true rfl)⟩) hw hT hS (rcv hw hT 0 0 (by decide) rfl rfl) (As := [.int n, .float x, .float y, .float z, .int g, .int k]) (rest := [.int (nI 0), .ref (g_ad G 13 0)]) rfl hl.1 rfl (Nat.le_of_ble_eq_true rfl) dL_addRow_13 ⟨(Nat.le_of_ble_eq_true rfl), (Nat.le_of_ble_eq_true rfl)⟩ (fun E ce q9 H locs h1 hw hS hce hcv hcl => ?_) (fun H locs h1 hw hS => ?_)
  · skip
    rcases e_arX h1 with rfl | rfl
    · skip
      refine vx_catch (own := RL) (name := xA) hown [] ⟨0, 18, 21, 13⟩ [⟨0, 18, 25, 22⟩] (htab.trans rfl) (fun z hz => absurd hz List.not_mem_nil) (by decide) (by decide) (hts _ (List.mem_of_getElem? (i := 1) rfl)) (va_Nw.use rfl (hT.2.2.2.1 _ (by decide +kernel))) hce hcv hcl ?_
      refine lv_astore (lv' := [(8, .ref q9), (0, .ref (g_ad G 0 0)), (1, .int n), (2, .float x), (3, .float y), (4, .float z), (5, .int g), (6, .int k), (7, .ref (g_ad G 13 0))]) hx hb dL_addRow_21 hl (by decide) rfl (fun ls hl => ?_)
      refine lv_iconst (v := nI 1) hx hb dL_addRow_23 (by decide) ?_
      exact ri hx hb hlk hr (by rw [en_s h1]; exact hw) hS (by rw [h1]; exact cd_1.symm) (vp_nar_int _) (Nat.le_of_ble_eq_true rfl) (Nat.le_of_ble_eq_true rfl) dL_addRow_24
    · skip
      refine vx_catch (own := RL) (name := xS) hown [⟨0, 18, 21, 13⟩] ⟨0, 18, 25, 22⟩ [] (htab.trans rfl) (fun z hz => by rw [List.mem_singleton.mp hz]; exact Or.inr ⟨by decide, xA, hts _ (List.mem_of_getElem? (i := 1) rfl), hN.1⟩) (by decide) (by decide) (hts _ (List.mem_of_getElem? (i := 2) rfl)) (va_Nw.use rfl (hT.2.2.2.1 _ (by decide +kernel))) hce hcv hcl ?_
      refine lv_astore (lv' := [(8, .ref q9), (0, .ref (g_ad G 0 0)), (1, .int n), (2, .float x), (3, .float y), (4, .float z), (5, .int g), (6, .int k), (7, .ref (g_ad G 13 0))]) hx hb dL_addRow_25 hl (by decide) rfl (fun ls hl => ?_)
      refine lv_iconst (v := nI 2) hx hb dL_addRow_27 (by decide) ?_
      exact ri hx hb hlk hr (by rw [en_s h1]; exact hw) hS (by rw [h1]; exact (cd_2 (by decide)).symm) (vp_nar_int _) (Nat.le_of_ble_eq_true rfl) (Nat.le_of_ble_eq_true rfl) dL_addRow_28
  refine lv_i2l hx hb dL_addRow_16 rfl ?_
  refine als (S' := (ouU (abT (kN n) x y z g k (arM S n x y z)) (va_up (ouS (abT (kN n) x y z g k (arM S n x y z))) 0 (((abD (kN n) x y z g k (arM S n x y z)).2.1).toInt64)))) hx hb hw hT hS 13 0 (by decide) (f := ouS (abT (kN n) x y z g k (arM S n x y z))) rfl 0 (by decide) (by decide) (mup_ou G (abT (kN n) x y z g k (arM S n x y z)) (va_up (ouS (abT (kN n) x y z g k (arM S n x y z))) 0 (((abD (kN n) x y z g k (arM S n x y z)).2.1).toInt64))) dL_addRow_17 (fun H locs hw hS => ?_)
  refine lv_goto (tgt := 29) hx hb dL_addRow_18 (by decide) ?_
  refine lv_iconst (v := nI 0) hx hb dL_addRow_29 (by decide) ?_
  exact ri hx hb hlk hr (by rw [en_n h1]; exact hw) hS (by rw [h1]; rfl) (vp_nar_int _) (Nat.le_of_ble_eq_true rfl) (Nat.le_of_ble_eq_true rfl) dL_addRow_30
set_option maxRecDepth 100000 in
set_option maxHeartbeats 1000000 in
theorem h_move (l : Launch) (G : Gm) (S : St) (hl0 : l.stackTraces = false) (k : Int32) (x : UInt32) (y : UInt32) (z : UInt32) (hp : Gb (bxS S 0)) : PiN l yL_move wsL_move ({ frames := 8, cells := 3, slots := 18, locals := 129 } : Room) [.ref (g_ad G 0 0), .int k, .float x, .float y, .float z, .ref (g_ad G 13 0)] G S (cdX xI (orX (thereX S k) (orX (padX S) (movX x y z)))) (enS (orX (thereX S k) (orX (padX S) (movX x y z))) S (ouU (mtS S (kN k) 0 x y z) (va_up (ouS (mtS S (kN k) 0 x y z)) 0 (bL (!(mtB S (kN k) 0)))))) := by
  refine entL (cc := cL_move) (maxL := 7) (ret := (some .int)) (hh := [(0, 21, 24, 32), (0, 21, 28, 13)]) (by decide) rfl (Nat.le_of_ble_eq_true rfl) ?_
  intro p e s m below meth c ls C hw hT hN hS htab hl
  obtain ⟨hx, hb, hr, hml, hown, hts, hlk⟩ := C
  have hl : lv_has ls 7 [(0, .ref (g_ad G 0 0)), (1, .int k), (2, .float x), (3, .float y), (4, .float z), (5, .ref (g_ad G 13 0))] := hl
  refine lv_aload hx hb dL_move_0 (lv_at hl 5 rfl) ?_
  refine lv_iconst (v := nI 0) hx hb dL_move_2 (by decide) ?_
  refine lv_aload_n hx hb dL_move_3 rfl (lv_at hl 0 rfl) ?_
  refine lv_iload_n hx hb dL_move_4 rfl (lv_at hl 1 rfl) ?_
  refine lv_fload_n hx hb dL_move_5 rfl (lv_at hl 2 rfl) ?_
  refine lv_fload_n hx hb dL_move_6 rfl (lv_at hl 3 rfl) ?_
  refine lv_fload hx hb dL_move_7 (lv_at hl 4 rfl) ?_
  refine xVi ⟨hx, hb, hml, hown, hts⟩ (c_move l G S hl0 hp k x y z) (cwV 4 hts gL_move_X3_move rfl rfl rfl (by decide +kernel) ⟨(Nat.le_of_ble_eq_true rfl), (Nat.le_of_ble_eq_true rfl)⟩) hw hT hS (rcv hw hT 0 0 (by decide) rfl rfl) (As := [.int k, .float x, .float y, .float z]) (rest := [.int (nI 0), .ref (g_ad G 13 0)]) rfl hl.1 rfl (Nat.le_of_ble_eq_true rfl) dL_move_9 ⟨(Nat.le_of_ble_eq_true rfl), (Nat.le_of_ble_eq_true rfl)⟩ (fun E ce q9 H locs h1 hw hS hce hcv hcl => ?_) (fun H locs h1 hw hS => ?_)
  · skip
    rcases e_move h1 with rfl | rfl
    · skip
      refine vx_catch (own := RL) (name := xI) hown [] ⟨0, 21, 24, 32⟩ [⟨0, 21, 28, 13⟩] (htab.trans rfl) (fun z hz => absurd hz List.not_mem_nil) (by decide) (by decide) (hts _ (List.mem_of_getElem? (i := 1) rfl)) (va_Nw.use rfl (hT.2.2.2.1 _ (by decide +kernel))) hce hcv hcl ?_
      refine lv_astore (lv' := [(6, .ref q9), (0, .ref (g_ad G 0 0)), (1, .int k), (2, .float x), (3, .float y), (4, .float z), (5, .ref (g_ad G 13 0))]) hx hb dL_move_24 hl (by decide) rfl (fun ls hl => ?_)
      refine lv_iconst (v := nI 1) hx hb dL_move_26 (by decide) ?_
      exact ri hx hb hlk hr (by rw [en_s h1]; exact hw) hS (by rw [h1]; exact cd_1.symm) (vp_nar_int _) (Nat.le_of_ble_eq_true rfl) (Nat.le_of_ble_eq_true rfl) dL_move_27
    · skip
      refine vx_catch (own := RL) (name := xA) hown [⟨0, 21, 24, 32⟩] ⟨0, 21, 28, 13⟩ [] (htab.trans rfl) (fun z hz => by rw [List.mem_singleton.mp hz]; exact Or.inr ⟨by decide, xI, hts _ (List.mem_of_getElem? (i := 1) rfl), hN.2⟩) (by decide) (by decide) (hts _ (List.mem_of_getElem? (i := 2) rfl)) (va_Nw.use rfl (hT.2.2.2.1 _ (by decide +kernel))) hce hcv hcl ?_
      refine lv_astore (lv' := [(6, .ref q9), (0, .ref (g_ad G 0 0)), (1, .int k), (2, .float x), (3, .float y), (4, .float z), (5, .ref (g_ad G 13 0))]) hx hb dL_move_28 hl (by decide) rfl (fun ls hl => ?_)
      refine lv_iconst (v := nI 2) hx hb dL_move_30 (by decide) ?_
      exact ri hx hb hlk hr (by rw [en_s h1]; exact hw) hS (by rw [h1]; exact (cd_2 (by decide)).symm) (vp_nar_int _) (Nat.le_of_ble_eq_true rfl) (Nat.le_of_ble_eq_true rfl) dL_move_31
  have K9 : ∀ (v : Int64), v = bL (!(mtB S (kN k) 0)) → W p l e ({ frames := 8, cells := 3, slots := 18, locals := 129 } : Room) s m ([.ref (g_ad G 0 0), .int k, .float x, .float y, .float z, .ref (g_ad G 13 0)] : List Value).toArray below meth c H locs (0 + 3) (0 + 18) (MQ below (Qi G (cdX xI (orX (thereX S k) (orX (padX S) (movX x y z)))) (enS (orX (thereX S k) (orX (padX S) (movX x y z))) S (ouU (mtS S (kN k) 0 x y z) (va_up (ouS (mtS S (kN k) 0 x y z)) 0 (bL (!(mtB S (kN k) 0))))))) ([.ref (g_ad G 0 0), .int k, .float x, .float y, .float z, .ref (g_ad G 13 0)] : List Value).toArray s ({ frames := 8, cells := 3, slots := 18, locals := 129 } : Room).cells ({ frames := 8, cells := 3, slots := 18, locals := 129 } : Room).slots (g_A G)) (F0 m 20 ls (.long v :: [.int (nI 0), .ref (g_ad G 13 0)])) := by
    intro v hv9
    subst hv9
    refine als (S' := (ouU (mtS S (kN k) 0 x y z) (va_up (ouS (mtS S (kN k) 0 x y z)) 0 (bL (!(mtB S (kN k) 0)))))) hx hb hw hT hS 13 0 (by decide) (f := ouS (mtS S (kN k) 0 x y z)) rfl 0 (by decide) (by decide) (mup_ou G (mtS S (kN k) 0 x y z) (va_up (ouS (mtS S (kN k) 0 x y z)) 0 (bL (!(mtB S (kN k) 0))))) dL_move_20 (fun H locs hw hS => ?_)
    refine lv_goto (tgt := 32) hx hb dL_move_21 (by decide) ?_
    refine lv_iconst (v := nI 0) hx hb dL_move_32 (by decide) ?_
    exact ri hx hb hlk hr (by rw [en_n h1]; exact hw) hS (by rw [h1]; rfl) (vp_nar_int _) (Nat.le_of_ble_eq_true rfl) (Nat.le_of_ble_eq_true rfl) dL_move_33
  refine lv_if_eq (tgt := 19) hx hb dL_move_12 (by decide) (fun h2 => ?_) (fun h2 => ?_)
  · skip
    refine lv_lconst (v := 0) hx hb dL_move_19 (by decide) ?_
    exact K9 _ (by rw [bI_0.mp h2]; rfl)
  · skip
    refine lv_lconst (v := 1) hx hb dL_move_15 (by decide) ?_
    refine lv_goto (tgt := 20) hx hb dL_move_16 (by decide) ?_
    exact K9 _ (by rw [bI_n0.mp h2]; rfl)
set_option maxRecDepth 100000 in
set_option maxHeartbeats 1000000 in
theorem h_shift (l : Launch) (G : Gm) (S : St) (hl0 : l.stackTraces = false) (fr : Int32) (tt : Int32) (x : UInt32) (y : UInt32) (z : UInt32) (hG0 : ∀ k, k < 512 → Gb (bxS S (2 * k + 2))) : PiN l yL_shift wsL_shift ({ frames := 8, cells := 1, slots := 6, locals := 156 } : Room) [.ref (g_ad G 0 0), .int fr, .int tt, .float x, .float y, .float z, .ref (g_ad G 13 0)] G S (cdX xI (shE fr tt x y z)) (enS (shE fr tt x y z) S (ouU ((shD S fr tt x y z).1) (va_up (ouS ((shD S fr tt x y z).1)) 0 (((shD S fr tt x y z).2).toInt64)))) := by
  refine entL (cc := cL_shift) (maxL := 8) (ret := (some .int)) (hh := [(0, 16, 19, 32), (0, 16, 23, 13)]) (by decide) rfl (Nat.le_of_ble_eq_true rfl) ?_
  intro p e s m below meth c ls C hw hT hN hS htab hl
  obtain ⟨hx, hb, hr, hml, hown, hts, hlk⟩ := C
  have hl : lv_has ls 8 [(0, .ref (g_ad G 0 0)), (1, .int fr), (2, .int tt), (3, .float x), (4, .float y), (5, .float z), (6, .ref (g_ad G 13 0))] := hl
  refine lv_aload hx hb dL_shift_0 (lv_at hl 6 rfl) ?_
  refine lv_iconst (v := nI 0) hx hb dL_shift_2 (by decide) ?_
  refine lv_aload_n hx hb dL_shift_3 rfl (lv_at hl 0 rfl) ?_
  refine lv_iload_n hx hb dL_shift_4 rfl (lv_at hl 1 rfl) ?_
  refine lv_iload_n hx hb dL_shift_5 rfl (lv_at hl 2 rfl) ?_
  refine lv_fload_n hx hb dL_shift_6 rfl (lv_at hl 3 rfl) ?_
  refine lv_fload hx hb dL_shift_7 (lv_at hl 4 rfl) ?_
  refine lv_fload hx hb dL_shift_9 (lv_at hl 5 rfl) ?_
  refine xVi ⟨hx, hb, hml, hown, hts⟩ (c_shift l G S hl0 hG0 fr tt x y z) (cwV 5 hts gL_shift_X3_shift rfl rfl rfl (by decide +kernel) ⟨(Nat.le_of_ble_eq_true rfl), (Nat.le_of_ble_eq_true rfl)⟩) hw hT hS (rcv hw hT 0 0 (by decide) rfl rfl) (As := [.int fr, .int tt, .float x, .float y, .float z]) (rest := [.int (nI 0), .ref (g_ad G 13 0)]) rfl hl.1 rfl (Nat.le_of_ble_eq_true rfl) dL_shift_11 ⟨(Nat.le_of_ble_eq_true rfl), (Nat.le_of_ble_eq_true rfl)⟩ (fun E ce q9 H locs h1 hw hS hce hcv hcl => ?_) (fun H locs h1 hw hS => ?_)
  · skip
    rcases e_shift h1 with rfl | rfl
    · skip
      refine vx_catch (own := RL) (name := xI) hown [] ⟨0, 16, 19, 32⟩ [⟨0, 16, 23, 13⟩] (htab.trans rfl) (fun z hz => absurd hz List.not_mem_nil) (by decide) (by decide) (hts _ (List.mem_of_getElem? (i := 1) rfl)) (va_Nw.use rfl (hT.2.2.2.1 _ (by decide +kernel))) hce hcv hcl ?_
      refine lv_astore (lv' := [(7, .ref q9), (0, .ref (g_ad G 0 0)), (1, .int fr), (2, .int tt), (3, .float x), (4, .float y), (5, .float z), (6, .ref (g_ad G 13 0))]) hx hb dL_shift_19 hl (by decide) rfl (fun ls hl => ?_)
      refine lv_iconst (v := nI 1) hx hb dL_shift_21 (by decide) ?_
      exact ri hx hb hlk hr (by rw [en_s h1]; exact hw) hS (by rw [h1]; exact cd_1.symm) (vp_nar_int _) (Nat.le_of_ble_eq_true rfl) (Nat.le_of_ble_eq_true rfl) dL_shift_22
    · skip
      refine vx_catch (own := RL) (name := xA) hown [⟨0, 16, 19, 32⟩] ⟨0, 16, 23, 13⟩ [] (htab.trans rfl) (fun z hz => by rw [List.mem_singleton.mp hz]; exact Or.inr ⟨by decide, xI, hts _ (List.mem_of_getElem? (i := 1) rfl), hN.2⟩) (by decide) (by decide) (hts _ (List.mem_of_getElem? (i := 2) rfl)) (va_Nw.use rfl (hT.2.2.2.1 _ (by decide +kernel))) hce hcv hcl ?_
      refine lv_astore (lv' := [(7, .ref q9), (0, .ref (g_ad G 0 0)), (1, .int fr), (2, .int tt), (3, .float x), (4, .float y), (5, .float z), (6, .ref (g_ad G 13 0))]) hx hb dL_shift_23 hl (by decide) rfl (fun ls hl => ?_)
      refine lv_iconst (v := nI 2) hx hb dL_shift_25 (by decide) ?_
      exact ri hx hb hlk hr (by rw [en_s h1]; exact hw) hS (by rw [h1]; exact (cd_2 (by decide)).symm) (vp_nar_int _) (Nat.le_of_ble_eq_true rfl) (Nat.le_of_ble_eq_true rfl) dL_shift_26
  refine lv_i2l hx hb dL_shift_14 rfl ?_
  refine als (S' := (ouU ((shD S fr tt x y z).1) (va_up (ouS ((shD S fr tt x y z).1)) 0 (((shD S fr tt x y z).2).toInt64)))) hx hb hw hT hS 13 0 (by decide) (f := ouS ((shD S fr tt x y z).1)) rfl 0 (by decide) (by decide) (mup_ou G ((shD S fr tt x y z).1) (va_up (ouS ((shD S fr tt x y z).1)) 0 (((shD S fr tt x y z).2).toInt64))) dL_shift_15 (fun H locs hw hS => ?_)
  refine lv_goto (tgt := 27) hx hb dL_shift_16 (by decide) ?_
  refine lv_iconst (v := nI 0) hx hb dL_shift_27 (by decide) ?_
  exact ri hx hb hlk hr (by rw [en_n h1]; exact hw) hS (by rw [h1]; rfl) (vp_nar_int _) (Nat.le_of_ble_eq_true rfl) (Nat.le_of_ble_eq_true rfl) dL_shift_28
set_option maxRecDepth 100000 in
set_option maxHeartbeats 1000000 in
theorem h_filter (l : Launch) (G : Gm) (S : St) (hl0 : l.stackTraces = false) (k : Int32) (g : Int32) (q : Int32)  : PiN l yL_filter wsL_filter ({ frames := 8, cells := 1, slots := 6, locals := 126 } : Room) [.ref (g_ad G 0 0), .int k, .int g, .int q] G S (cdX xI (thereX S k)) (enS (thereX S k) S (flS S (kN k) g q)) := by
  refine entL (cc := cL_filter) (maxL := 5) (ret := (some .int)) (hh := [(0, 7, 10, 32)]) (by decide) rfl (Nat.le_of_ble_eq_true rfl) ?_
  intro p e s m below meth c ls C hw hT hN hS htab hl
  obtain ⟨hx, hb, hr, hml, hown, hts, hlk⟩ := C
  have hl : lv_has ls 5 [(0, .ref (g_ad G 0 0)), (1, .int k), (2, .int g), (3, .int q)] := hl
  refine lv_aload_n hx hb dL_filter_0 rfl (lv_at hl 0 rfl) ?_
  refine lv_iload_n hx hb dL_filter_1 rfl (lv_at hl 1 rfl) ?_
  refine lv_iload_n hx hb dL_filter_2 rfl (lv_at hl 2 rfl) ?_
  refine lv_iload_n hx hb dL_filter_3 rfl (lv_at hl 3 rfl) ?_
  refine xVv ⟨hx, hb, hml, hown, hts⟩ (c_filter l G S hl0 k g q) (cwV 3 hts gL_filter_X3_filter rfl rfl rfl (by decide +kernel) ⟨(Nat.le_of_ble_eq_true rfl), (Nat.le_of_ble_eq_true rfl)⟩) hw hT hS (rcv hw hT 0 0 (by decide) rfl rfl) (As := [.int k, .int g, .int q]) (rest := []) rfl hl.1 rfl (Nat.le_of_ble_eq_true rfl) dL_filter_4 ⟨(Nat.le_of_ble_eq_true rfl), (Nat.le_of_ble_eq_true rfl)⟩ (fun E ce q9 H locs h1 hw hS hce hcv hcl => ?_) (fun H locs h1 hw hS => ?_)
  · skip
    obtain rfl := e_there h1
    refine vx_catch (own := RL) (name := xI) hown [] ⟨0, 7, 10, 32⟩ [] (htab.trans rfl) (fun z hz => absurd hz List.not_mem_nil) (by decide) (by decide) (hts _ (List.mem_of_getElem? (i := 1) rfl)) (va_Nw.use rfl (hT.2.2.2.1 _ (by decide +kernel))) hce hcv hcl ?_
    refine lv_astore (lv' := [(4, .ref q9), (0, .ref (g_ad G 0 0)), (1, .int k), (2, .int g), (3, .int q)]) hx hb dL_filter_10 hl (by decide) rfl (fun ls hl => ?_)
    refine lv_iconst (v := nI 1) hx hb dL_filter_12 (by decide) ?_
    exact ri hx hb hlk hr (by rw [en_s h1]; exact hw) hS (by rw [h1]; exact cd_1.symm) (vp_nar_int _) (Nat.le_of_ble_eq_true rfl) (Nat.le_of_ble_eq_true rfl) dL_filter_13
  refine lv_goto (tgt := 14) hx hb dL_filter_7 (by decide) ?_
  refine lv_iconst (v := nI 0) hx hb dL_filter_14 (by decide) ?_
  exact ri hx hb hlk hr (by rw [en_n h1]; exact hw) hS (by rw [h1]; rfl) (vp_nar_int _) (Nat.le_of_ble_eq_true rfl) (Nat.le_of_ble_eq_true rfl) dL_filter_15
set_option maxRecDepth 100000 in
set_option maxHeartbeats 1000000 in
theorem h_remove (l : Launch) (G : Gm) (S : St) (hl0 : l.stackTraces = false) (k : Int32) (hi1 : (ipS S).1 < 4) (hi2 : (ipS S).2 < 4) : PiN l yL_remove wsL_remove ({ frames := 8, cells := 1, slots := 6, locals := 126 } : Room) [.ref (g_ad G 0 0), .int k, .ref (g_ad G 13 0)] G S (cdX xI (thereX S k)) (enS (thereX S k) S (ouU (rmT S (kN k)) (va_up (ouS (rmT S (kN k))) 0 ((nI (rmC S (kN k) 512)).toInt64)))) := by
  refine entL (cc := cL_remove) (maxL := 4) (ret := (some .int)) (hh := [(0, 9, 12, 32)]) (by decide) rfl (Nat.le_of_ble_eq_true rfl) ?_
  intro p e s m below meth c ls C hw hT hN hS htab hl
  obtain ⟨hx, hb, hr, hml, hown, hts, hlk⟩ := C
  have hl : lv_has ls 4 [(0, .ref (g_ad G 0 0)), (1, .int k), (2, .ref (g_ad G 13 0))] := hl
  refine lv_aload_n hx hb dL_remove_0 rfl (lv_at hl 2 rfl) ?_
  refine lv_iconst (v := nI 0) hx hb dL_remove_1 (by decide) ?_
  refine lv_aload_n hx hb dL_remove_2 rfl (lv_at hl 0 rfl) ?_
  refine lv_iload_n hx hb dL_remove_3 rfl (lv_at hl 1 rfl) ?_
  refine xVi ⟨hx, hb, hml, hown, hts⟩ (c_remove l G S hl0 hi1 hi2 k) (cwV 1 hts gL_remove_X3_remove rfl rfl rfl (by decide +kernel) ⟨(Nat.le_of_ble_eq_true rfl), (Nat.le_of_ble_eq_true rfl)⟩) hw hT hS (rcv hw hT 0 0 (by decide) rfl rfl) (As := [.int k]) (rest := [.int (nI 0), .ref (g_ad G 13 0)]) rfl hl.1 rfl (Nat.le_of_ble_eq_true rfl) dL_remove_4 ⟨(Nat.le_of_ble_eq_true rfl), (Nat.le_of_ble_eq_true rfl)⟩ (fun E ce q9 H locs h1 hw hS hce hcv hcl => ?_) (fun H locs h1 hw hS => ?_)
  · skip
    obtain rfl := e_there h1
    refine vx_catch (own := RL) (name := xI) hown [] ⟨0, 9, 12, 32⟩ [] (htab.trans rfl) (fun z hz => absurd hz List.not_mem_nil) (by decide) (by decide) (hts _ (List.mem_of_getElem? (i := 1) rfl)) (va_Nw.use rfl (hT.2.2.2.1 _ (by decide +kernel))) hce hcv hcl ?_
    refine lv_astore_n (lv' := [(3, .ref q9), (0, .ref (g_ad G 0 0)), (1, .int k), (2, .ref (g_ad G 13 0))]) hx hb dL_remove_12 rfl hl (by decide) rfl (fun ls hl => ?_)
    refine lv_iconst (v := nI 1) hx hb dL_remove_13 (by decide) ?_
    exact ri hx hb hlk hr (by rw [en_s h1]; exact hw) hS (by rw [h1]; exact cd_1.symm) (vp_nar_int _) (Nat.le_of_ble_eq_true rfl) (Nat.le_of_ble_eq_true rfl) dL_remove_14
  refine lv_i2l hx hb dL_remove_7 rfl ?_
  refine als (S' := (ouU (rmT S (kN k)) (va_up (ouS (rmT S (kN k))) 0 ((nI (rmC S (kN k) 512)).toInt64)))) hx hb hw hT hS 13 0 (by decide) (f := ouS (rmT S (kN k))) rfl 0 (by decide) (by decide) (mup_ou G (rmT S (kN k)) (va_up (ouS (rmT S (kN k))) 0 ((nI (rmC S (kN k) 512)).toInt64))) dL_remove_8 (fun H locs hw hS => ?_)
  refine lv_goto (tgt := 15) hx hb dL_remove_9 (by decide) ?_
  refine lv_iconst (v := nI 0) hx hb dL_remove_15 (by decide) ?_
  exact ri hx hb hlk hr (by rw [en_n h1]; exact hw) hS (by rw [h1]; rfl) (vp_nar_int _) (Nat.le_of_ble_eq_true rfl) (Nat.le_of_ble_eq_true rfl) dL_remove_16
set_option maxRecDepth 100000 in
set_option maxHeartbeats 1000000 in
theorem h_update (l : Launch) (G : Gm) (S : St) (hl0 : l.stackTraces = false)  (hi1 : (ipS S).1 < 2) (hi2 : (ipS S).2 < 2) (hin : (ipS S).1 ≠ (ipS S).2) : PiN l yL_update wsL_update ({ frames := 7, cells := 1, slots := 6, locals := 104 } : Room) [.ref (g_ad G 0 0), .ref (g_ad G 13 0)] G S (cdX xS (upX S)) (enS (upX S) (upS S 512) (ouU (upF S) (va_up (ouS (upF S)) 0 ((psS (upF S) (ipS S).2).toInt64)))) := by
  refine entL (cc := cL_update) (maxL := 3) (ret := (some .int)) (hh := [(0, 8, 11, 22)]) (by decide) rfl (Nat.le_of_ble_eq_true rfl) ?_
  intro p e s m below meth c ls C hw hT hN hS htab hl
  obtain ⟨hx, hb, hr, hml, hown, hts, hlk⟩ := C
  have hl : lv_has ls 3 [(0, .ref (g_ad G 0 0)), (1, .ref (g_ad G 13 0))] := hl
  refine lv_aload_n hx hb dL_update_0 rfl (lv_at hl 1 rfl) ?_
  refine lv_iconst (v := nI 0) hx hb dL_update_1 (by decide) ?_
  refine lv_aload_n hx hb dL_update_2 rfl (lv_at hl 0 rfl) ?_
  refine xVi ⟨hx, hb, hml, hown, hts⟩ (c_update l G S hl0 hi1 hi2 hin) (cwV 0 hts gL_update_X3_update rfl rfl rfl (by decide +kernel) ⟨(Nat.le_of_ble_eq_true rfl), (Nat.le_of_ble_eq_true rfl)⟩) hw hT hS (rcv hw hT 0 0 (by decide) rfl rfl) (As := []) (rest := [.int (nI 0), .ref (g_ad G 13 0)]) rfl hl.1 rfl (Nat.le_of_ble_eq_true rfl) dL_update_3 ⟨(Nat.le_of_ble_eq_true rfl), (Nat.le_of_ble_eq_true rfl)⟩ (fun E ce q9 H locs h1 hw hS hce hcv hcl => ?_) (fun H locs h1 hw hS => ?_)
  · skip
    obtain rfl := e_up h1
    refine vx_catch (own := RL) (name := xS) hown [] ⟨0, 8, 11, 22⟩ [] (htab.trans rfl) (fun z hz => absurd hz List.not_mem_nil) (by decide) (by decide) (hts _ (List.mem_of_getElem? (i := 1) rfl)) (va_Nw.use rfl (hT.2.2.2.1 _ (by decide +kernel))) hce hcv hcl ?_
    refine lv_astore_n (lv' := [(2, .ref q9), (0, .ref (g_ad G 0 0)), (1, .ref (g_ad G 13 0))]) hx hb dL_update_11 rfl hl (by decide) rfl (fun ls hl => ?_)
    refine lv_iconst (v := nI 1) hx hb dL_update_12 (by decide) ?_
    exact ri hx hb hlk hr (by rw [en_s h1]; exact hw) hS (by rw [h1]; exact cd_1.symm) (vp_nar_int _) (Nat.le_of_ble_eq_true rfl) (Nat.le_of_ble_eq_true rfl) dL_update_13
  refine lv_i2l hx hb dL_update_6 rfl ?_
  refine als (S' := (ouU (upF S) (va_up (ouS (upF S)) 0 ((psS (upF S) (ipS S).2).toInt64)))) hx hb hw hT hS 13 0 (by decide) (f := ouS (upF S)) rfl 0 (by decide) (by decide) (mup_ou G (upF S) (va_up (ouS (upF S)) 0 ((psS (upF S) (ipS S).2).toInt64))) dL_update_7 (fun H locs hw hS => ?_)
  refine lv_goto (tgt := 14) hx hb dL_update_8 (by decide) ?_
  refine lv_iconst (v := nI 0) hx hb dL_update_14 (by decide) ?_
  exact ri hx hb hlk hr (by rw [en_n h1]; exact hw) hS (by rw [h1]; rfl) (vp_nar_int _) (Nat.le_of_ble_eq_true rfl) (Nat.le_of_ble_eq_true rfl) dL_update_15
set_option maxRecDepth 100000 in
set_option maxHeartbeats 1000000 in
theorem h_pair (l : Launch) (G : Gm) (S : St) (hl0 : l.stackTraces = false) (wh : Int32) (k : Int32) (hi1 : (ipS S).1 < 4) (hi2 : (ipS S).2 < 4) : PiN l yL_pair wsL_pair ({ frames := 7, cells := 1, slots := 6, locals := 105 } : Room) [.ref (g_ad G 0 0), .int wh, .int k, .ref (g_ad G 13 0)] G S (cdX xI (prX S wh k)) (enS (prX S wh k) S (ouU S (va_up (ouS S) 0 ((caF (pwS S (prI S wh)) 4096 0 k).toInt64)))) := by
  refine entL (cc := cL_pair) (maxL := 5) (ret := (some .int)) (hh := [(0, 10, 13, 32)]) (by decide) rfl (Nat.le_of_ble_eq_true rfl) ?_
  intro p e s m below meth c ls C hw hT hN hS htab hl
  obtain ⟨hx, hb, hr, hml, hown, hts, hlk⟩ := C
  have hl : lv_has ls 5 [(0, .ref (g_ad G 0 0)), (1, .int wh), (2, .int k), (3, .ref (g_ad G 13 0))] := hl
  refine lv_aload_n hx hb dL_pair_0 rfl (lv_at hl 3 rfl) ?_
  refine lv_iconst (v := nI 0) hx hb dL_pair_1 (by decide) ?_
  refine lv_aload_n hx hb dL_pair_2 rfl (lv_at hl 0 rfl) ?_
  refine lv_iload_n hx hb dL_pair_3 rfl (lv_at hl 1 rfl) ?_
  refine lv_iload_n hx hb dL_pair_4 rfl (lv_at hl 2 rfl) ?_
  refine xVi ⟨hx, hb, hml, hown, hts⟩ (c_pair l G S hl0 hi1 hi2 wh k) (cwV 2 hts gL_pair_X3_pair rfl rfl rfl (by decide +kernel) ⟨(Nat.le_of_ble_eq_true rfl), (Nat.le_of_ble_eq_true rfl)⟩) hw hT hS (rcv hw hT 0 0 (by decide) rfl rfl) (As := [.int wh, .int k]) (rest := [.int (nI 0), .ref (g_ad G 13 0)]) rfl hl.1 rfl (Nat.le_of_ble_eq_true rfl) dL_pair_5 ⟨(Nat.le_of_ble_eq_true rfl), (Nat.le_of_ble_eq_true rfl)⟩ (fun E ce q9 H locs h1 hw hS hce hcv hcl => ?_) (fun H locs h1 hw hS => ?_)
  · skip
    obtain rfl := e_pr h1
    refine vx_catch (own := RL) (name := xI) hown [] ⟨0, 10, 13, 32⟩ [] (htab.trans rfl) (fun z hz => absurd hz List.not_mem_nil) (by decide) (by decide) (hts _ (List.mem_of_getElem? (i := 1) rfl)) (va_Nw.use rfl (hT.2.2.2.1 _ (by decide +kernel))) hce hcv hcl ?_
    refine lv_astore (lv' := [(4, .ref q9), (0, .ref (g_ad G 0 0)), (1, .int wh), (2, .int k), (3, .ref (g_ad G 13 0))]) hx hb dL_pair_13 hl (by decide) rfl (fun ls hl => ?_)
    refine lv_iconst (v := nI 1) hx hb dL_pair_15 (by decide) ?_
    exact ri hx hb hlk hr (by rw [en_s h1]; exact hw) hS (by rw [h1]; exact cd_1.symm) (vp_nar_int _) (Nat.le_of_ble_eq_true rfl) (Nat.le_of_ble_eq_true rfl) dL_pair_16
  refine lv_i2l hx hb dL_pair_8 rfl ?_
  refine als (S' := (ouU S (va_up (ouS S) 0 ((caF (pwS S (prI S wh)) 4096 0 k).toInt64)))) hx hb hw hT hS 13 0 (by decide) (f := ouS S) rfl 0 (by decide) (by decide) (mup_ou G S (va_up (ouS S) 0 ((caF (pwS S (prI S wh)) 4096 0 k).toInt64))) dL_pair_9 (fun H locs hw hS => ?_)
  refine lv_goto (tgt := 17) hx hb dL_pair_10 (by decide) ?_
  refine lv_iconst (v := nI 0) hx hb dL_pair_17 (by decide) ?_
  exact ri hx hb hlk hr (by rw [en_n h1]; exact hw) hS (by rw [h1]; rfl) (vp_nar_int _) (Nat.le_of_ble_eq_true rfl) (Nat.le_of_ble_eq_true rfl) dL_pair_18
set_option maxRecDepth 100000 in
set_option maxHeartbeats 1000000 in
theorem h_paired (l : Launch) (G : Gm) (S : St) (hl0 : l.stackTraces = false) (a : Int32) (b : Int32) (hi1 : (ipS S).1 < 4) (hi2 : (ipS S).2 < 4) : PiN l yL_paired wsL_paired ({ frames := 8, cells := 2, slots := 12, locals := 125 } : Room) [.ref (g_ad G 0 0), .int a, .int b, .ref (g_ad G 13 0)] G S (cdX xI (orX (thereX S a) (thereX S b))) (enS (orX (thereX S a) (thereX S b)) S (ouU S (va_up (ouS S) 0 (bL (apB S (kN a) (kN b)))))) := by
  refine entL (cc := cL_paired) (maxL := 5) (ret := (some .int)) (hh := [(0, 17, 20, 32)]) (by decide) rfl (Nat.le_of_ble_eq_true rfl) ?_
  intro p e s m below meth c ls C hw hT hN hS htab hl
  obtain ⟨hx, hb, hr, hml, hown, hts, hlk⟩ := C
  have hl : lv_has ls 5 [(0, .ref (g_ad G 0 0)), (1, .int a), (2, .int b), (3, .ref (g_ad G 13 0))] := hl
  refine lv_aload_n hx hb dL_paired_0 rfl (lv_at hl 3 rfl) ?_
  refine lv_iconst (v := nI 0) hx hb dL_paired_1 (by decide) ?_
  refine lv_aload_n hx hb dL_paired_2 rfl (lv_at hl 0 rfl) ?_
  refine lv_iload_n hx hb dL_paired_3 rfl (lv_at hl 1 rfl) ?_
  refine lv_iload_n hx hb dL_paired_4 rfl (lv_at hl 2 rfl) ?_
  refine xVi ⟨hx, hb, hml, hown, hts⟩ (c_paired l G S hl0 hi1 hi2 a b) (cwV 2 hts gL_paired_X3_paired rfl rfl rfl (by decide +kernel) ⟨(Nat.le_of_ble_eq_true rfl), (Nat.le_of_ble_eq_true rfl)⟩) hw hT hS (rcv hw hT 0 0 (by decide) rfl rfl) (As := [.int a, .int b]) (rest := [.int (nI 0), .ref (g_ad G 13 0)]) rfl hl.1 rfl (Nat.le_of_ble_eq_true rfl) dL_paired_5 ⟨(Nat.le_of_ble_eq_true rfl), (Nat.le_of_ble_eq_true rfl)⟩ (fun E ce q9 H locs h1 hw hS hce hcv hcl => ?_) (fun H locs h1 hw hS => ?_)
  · skip
    obtain rfl := e_tt h1
    refine vx_catch (own := RL) (name := xI) hown [] ⟨0, 17, 20, 32⟩ [] (htab.trans rfl) (fun z hz => absurd hz List.not_mem_nil) (by decide) (by decide) (hts _ (List.mem_of_getElem? (i := 1) rfl)) (va_Nw.use rfl (hT.2.2.2.1 _ (by decide +kernel))) hce hcv hcl ?_
    refine lv_astore (lv' := [(4, .ref q9), (0, .ref (g_ad G 0 0)), (1, .int a), (2, .int b), (3, .ref (g_ad G 13 0))]) hx hb dL_paired_20 hl (by decide) rfl (fun ls hl => ?_)
    refine lv_iconst (v := nI 1) hx hb dL_paired_22 (by decide) ?_
    exact ri hx hb hlk hr (by rw [en_s h1]; exact hw) hS (by rw [h1]; exact cd_1.symm) (vp_nar_int _) (Nat.le_of_ble_eq_true rfl) (Nat.le_of_ble_eq_true rfl) dL_paired_23
  have K9 : ∀ (v : Int64), v = bL (apB S (kN a) (kN b)) → W p l e ({ frames := 8, cells := 2, slots := 12, locals := 125 } : Room) s m ([.ref (g_ad G 0 0), .int a, .int b, .ref (g_ad G 13 0)] : List Value).toArray below meth c H locs (0 + 2) (0 + 12) (MQ below (Qi G (cdX xI (orX (thereX S a) (thereX S b))) (enS (orX (thereX S a) (thereX S b)) S (ouU S (va_up (ouS S) 0 (bL (apB S (kN a) (kN b))))))) ([.ref (g_ad G 0 0), .int a, .int b, .ref (g_ad G 13 0)] : List Value).toArray s ({ frames := 8, cells := 2, slots := 12, locals := 125 } : Room).cells ({ frames := 8, cells := 2, slots := 12, locals := 125 } : Room).slots (g_A G)) (F0 m 16 ls (.long v :: [.int (nI 0), .ref (g_ad G 13 0)])) := by
    intro v hv9
    subst hv9
    refine als (S' := (ouU S (va_up (ouS S) 0 (bL (apB S (kN a) (kN b)))))) hx hb hw hT hS 13 0 (by decide) (f := ouS S) rfl 0 (by decide) (by decide) (mup_ou G S (va_up (ouS S) 0 (bL (apB S (kN a) (kN b))))) dL_paired_16 (fun H locs hw hS => ?_)
    refine lv_goto (tgt := 24) hx hb dL_paired_17 (by decide) ?_
    refine lv_iconst (v := nI 0) hx hb dL_paired_24 (by decide) ?_
    exact ri hx hb hlk hr (by rw [en_n h1]; exact hw) hS (by rw [h1]; rfl) (vp_nar_int _) (Nat.le_of_ble_eq_true rfl) (Nat.le_of_ble_eq_true rfl) dL_paired_25
  refine lv_if_eq (tgt := 15) hx hb dL_paired_8 (by decide) (fun h2 => ?_) (fun h2 => ?_)
  · skip
    refine lv_lconst (v := 0) hx hb dL_paired_15 (by decide) ?_
    exact K9 _ (by rw [bI_0.mp h2]; rfl)
  · skip
    refine lv_lconst (v := 1) hx hb dL_paired_11 (by decide) ?_
    refine lv_goto (tgt := 16) hx hb dL_paired_12 (by decide) ?_
    exact K9 _ (by rw [bI_n0.mp h2]; rfl)
set_option maxRecDepth 100000 in
set_option maxHeartbeats 1000000 in
theorem h_overlapping (l : Launch) (G : Gm) (S : St) (hl0 : l.stackTraces = false) (mask : Int32)  : PiN l yL_overlapping wsL_overlapping ({ frames := 8, cells := 1, slots := 6, locals := 125 } : Room) [.ref (g_ad G 0 0), .int mask, .ref (g_ad G 13 0)] G S (cdX xA (padX S)) (enS (padX S) S (ouU (ofR mask 512 0 (fzS S) 0) (va_up (ouS (ofR mask 512 0 (fzS S) 0)) 0 ((nfS (ofR mask 512 0 (fzS S) 0) 2).toInt64)))) := by
  refine entL (cc := cL_overlapping) (maxL := 4) (ret := (some .int)) (hh := [(0, 9, 12, 13)]) (by decide) rfl (Nat.le_of_ble_eq_true rfl) ?_
  intro p e s m below meth c ls C hw hT hN hS htab hl
  obtain ⟨hx, hb, hr, hml, hown, hts, hlk⟩ := C
  have hl : lv_has ls 4 [(0, .ref (g_ad G 0 0)), (1, .int mask), (2, .ref (g_ad G 13 0))] := hl
  refine lv_aload_n hx hb dL_overlapping_0 rfl (lv_at hl 2 rfl) ?_
  refine lv_iconst (v := nI 0) hx hb dL_overlapping_1 (by decide) ?_
  refine lv_aload_n hx hb dL_overlapping_2 rfl (lv_at hl 0 rfl) ?_
  refine lv_iload_n hx hb dL_overlapping_3 rfl (lv_at hl 1 rfl) ?_
  refine xVi ⟨hx, hb, hml, hown, hts⟩ (c_overlapping l G S hl0 mask) (cwV 1 hts gL_overlapping_X3_overlapping rfl rfl rfl (by decide +kernel) ⟨(Nat.le_of_ble_eq_true rfl), (Nat.le_of_ble_eq_true rfl)⟩) hw hT hS (rcv hw hT 0 0 (by decide) rfl rfl) (As := [.int mask]) (rest := [.int (nI 0), .ref (g_ad G 13 0)]) rfl hl.1 rfl (Nat.le_of_ble_eq_true rfl) dL_overlapping_4 ⟨(Nat.le_of_ble_eq_true rfl), (Nat.le_of_ble_eq_true rfl)⟩ (fun E ce q9 H locs h1 hw hS hce hcv hcl => ?_) (fun H locs h1 hw hS => ?_)
  · skip
    obtain rfl := e_pad h1
    refine vx_catch (own := RL) (name := xA) hown [] ⟨0, 9, 12, 13⟩ [] (htab.trans rfl) (fun z hz => absurd hz List.not_mem_nil) (by decide) (by decide) (hts _ (List.mem_of_getElem? (i := 1) rfl)) (va_Nw.use rfl (hT.2.2.2.1 _ (by decide +kernel))) hce hcv hcl ?_
    refine lv_astore_n (lv' := [(3, .ref q9), (0, .ref (g_ad G 0 0)), (1, .int mask), (2, .ref (g_ad G 13 0))]) hx hb dL_overlapping_12 rfl hl (by decide) rfl (fun ls hl => ?_)
    refine lv_iconst (v := nI 1) hx hb dL_overlapping_13 (by decide) ?_
    exact ri hx hb hlk hr (by rw [en_s h1]; exact hw) hS (by rw [h1]; exact cd_1.symm) (vp_nar_int _) (Nat.le_of_ble_eq_true rfl) (Nat.le_of_ble_eq_true rfl) dL_overlapping_14
  refine lv_i2l hx hb dL_overlapping_7 rfl ?_
  refine als (S' := (ouU (ofR mask 512 0 (fzS S) 0) (va_up (ouS (ofR mask 512 0 (fzS S) 0)) 0 ((nfS (ofR mask 512 0 (fzS S) 0) 2).toInt64)))) hx hb hw hT hS 13 0 (by decide) (f := ouS (ofR mask 512 0 (fzS S) 0)) rfl 0 (by decide) (by decide) (mup_ou G (ofR mask 512 0 (fzS S) 0) (va_up (ouS (ofR mask 512 0 (fzS S) 0)) 0 ((nfS (ofR mask 512 0 (fzS S) 0) 2).toInt64))) dL_overlapping_8 (fun H locs hw hS => ?_)
  refine lv_goto (tgt := 15) hx hb dL_overlapping_9 (by decide) ?_
  refine lv_iconst (v := nI 0) hx hb dL_overlapping_15 (by decide) ?_
  exact ri hx hb hlk hr (by rw [en_n h1]; exact hw) hS (by rw [h1]; rfl) (vp_nar_int _) (Nat.le_of_ble_eq_true rfl) (Nat.le_of_ble_eq_true rfl) dL_overlapping_16
set_option maxRecDepth 100000 in
set_option maxHeartbeats 1000000 in
theorem h_found (l : Launch) (G : Gm) (S : St) (hl0 : l.stackTraces = false) (k : Int32) (c9 : Nat) (hc : nfS S 2 = nI c9) (hc5 : c9 ≤ 512) : PiN l yL_found wsL_found ({ frames := 8, cells := 1, slots := 6, locals := 124 } : Room) [.ref (g_ad G 0 0), .int k, .ref (g_ad G 13 0)] G S (cdX xI (foundX S k)) (enS (foundX S k) S (ouU S (va_up (ouS S) 0 ((fbS S (kN k)).toInt64)))) := by
  refine entL (cc := cL_found) (maxL := 4) (ret := (some .int)) (hh := [(0, 9, 12, 32)]) (by decide) rfl (Nat.le_of_ble_eq_true rfl) ?_
  intro p e s m below meth c ls C hw hT hN hS htab hl
  obtain ⟨hx, hb, hr, hml, hown, hts, hlk⟩ := C
  have hl : lv_has ls 4 [(0, .ref (g_ad G 0 0)), (1, .int k), (2, .ref (g_ad G 13 0))] := hl
  refine lv_aload_n hx hb dL_found_0 rfl (lv_at hl 2 rfl) ?_
  refine lv_iconst (v := nI 0) hx hb dL_found_1 (by decide) ?_
  refine lv_aload_n hx hb dL_found_2 rfl (lv_at hl 0 rfl) ?_
  refine lv_iload_n hx hb dL_found_3 rfl (lv_at hl 1 rfl) ?_
  refine xVi ⟨hx, hb, hml, hown, hts⟩ (c_found l G S hl0 c9 hc hc5 k) (cwV 1 hts gL_found_X3_found rfl rfl rfl (by decide +kernel) ⟨(Nat.le_of_ble_eq_true rfl), (Nat.le_of_ble_eq_true rfl)⟩) hw hT hS (rcv hw hT 0 0 (by decide) rfl rfl) (As := [.int k]) (rest := [.int (nI 0), .ref (g_ad G 13 0)]) rfl hl.1 rfl (Nat.le_of_ble_eq_true rfl) dL_found_4 ⟨(Nat.le_of_ble_eq_true rfl), (Nat.le_of_ble_eq_true rfl)⟩ (fun E ce q9 H locs h1 hw hS hce hcv hcl => ?_) (fun H locs h1 hw hS => ?_)
  · skip
    obtain rfl := e_found h1
    refine vx_catch (own := RL) (name := xI) hown [] ⟨0, 9, 12, 32⟩ [] (htab.trans rfl) (fun z hz => absurd hz List.not_mem_nil) (by decide) (by decide) (hts _ (List.mem_of_getElem? (i := 1) rfl)) (va_Nw.use rfl (hT.2.2.2.1 _ (by decide +kernel))) hce hcv hcl ?_
    refine lv_astore_n (lv' := [(3, .ref q9), (0, .ref (g_ad G 0 0)), (1, .int k), (2, .ref (g_ad G 13 0))]) hx hb dL_found_12 rfl hl (by decide) rfl (fun ls hl => ?_)
    refine lv_iconst (v := nI 1) hx hb dL_found_13 (by decide) ?_
    exact ri hx hb hlk hr (by rw [en_s h1]; exact hw) hS (by rw [h1]; exact cd_1.symm) (vp_nar_int _) (Nat.le_of_ble_eq_true rfl) (Nat.le_of_ble_eq_true rfl) dL_found_14
  refine lv_i2l hx hb dL_found_7 rfl ?_
  refine als (S' := (ouU S (va_up (ouS S) 0 ((fbS S (kN k)).toInt64)))) hx hb hw hT hS 13 0 (by decide) (f := ouS S) rfl 0 (by decide) (by decide) (mup_ou G S (va_up (ouS S) 0 ((fbS S (kN k)).toInt64))) dL_found_8 (fun H locs hw hS => ?_)
  refine lv_goto (tgt := 15) hx hb dL_found_9 (by decide) ?_
  refine lv_iconst (v := nI 0) hx hb dL_found_15 (by decide) ?_
  exact ri hx hb hlk hr (by rw [en_n h1]; exact hw) hS (by rw [h1]; rfl) (vp_nar_int _) (Nat.le_of_ble_eq_true rfl) (Nat.le_of_ble_eq_true rfl) dL_found_16
set_option maxRecDepth 100000 in
set_option maxHeartbeats 1000000 in
theorem h_where (l : Launch) (G : Gm) (S : St) (hl0 : l.stackTraces = false) (k : Int32) (c9 : Nat) (hc : nfS S 2 = nI c9) (hc5 : c9 ≤ 512) (hv : foundX S k = none → vf_n32 (ffS S (kN k))) : PiN l yL_where wsL_where ({ frames := 8, cells := 1, slots := 6, locals := 124 } : Room) [.ref (g_ad G 0 0), .int k, .ref (g_ad G 14 0)] G S (cdX xI (foundX S k)) (enS (foundX S k) S (odU S (va_up (odS S) 0 (FP.f2d (ffS S (kN k)))))) := by
  refine entL (cc := cL_where) (maxL := 4) (ret := (some .int)) (hh := [(0, 9, 12, 32)]) (by decide) rfl (Nat.le_of_ble_eq_true rfl) ?_
  intro p e s m below meth c ls C hw hT hN hS htab hl
  obtain ⟨hx, hb, hr, hml, hown, hts, hlk⟩ := C
  have hl : lv_has ls 4 [(0, .ref (g_ad G 0 0)), (1, .int k), (2, .ref (g_ad G 14 0))] := hl
  refine lv_aload_n hx hb dL_where_0 rfl (lv_at hl 2 rfl) ?_
  refine lv_iconst (v := nI 0) hx hb dL_where_1 (by decide) ?_
  refine lv_aload_n hx hb dL_where_2 rfl (lv_at hl 0 rfl) ?_
  refine lv_iload_n hx hb dL_where_3 rfl (lv_at hl 1 rfl) ?_
  refine xVf ⟨hx, hb, hml, hown, hts⟩ (c_where l G S hl0 c9 hc hc5 k) (cwV 1 hts gL_where_X3_where rfl rfl rfl (by decide +kernel) ⟨(Nat.le_of_ble_eq_true rfl), (Nat.le_of_ble_eq_true rfl)⟩) hw hT hS (rcv hw hT 0 0 (by decide) rfl rfl) (As := [.int k]) (rest := [.int (nI 0), .ref (g_ad G 14 0)]) rfl hl.1 rfl (Nat.le_of_ble_eq_true rfl) dL_where_4 ⟨(Nat.le_of_ble_eq_true rfl), (Nat.le_of_ble_eq_true rfl)⟩ (fun E ce q9 H locs h1 hw hS hce hcv hcl => ?_) (fun H locs h1 hw hS => ?_)
  · skip
    obtain rfl := e_found h1
    refine vx_catch (own := RL) (name := xI) hown [] ⟨0, 9, 12, 32⟩ [] (htab.trans rfl) (fun z hz => absurd hz List.not_mem_nil) (by decide) (by decide) (hts _ (List.mem_of_getElem? (i := 1) rfl)) (va_Nw.use rfl (hT.2.2.2.1 _ (by decide +kernel))) hce hcv hcl ?_
    refine lv_astore_n (lv' := [(3, .ref q9), (0, .ref (g_ad G 0 0)), (1, .int k), (2, .ref (g_ad G 14 0))]) hx hb dL_where_12 rfl hl (by decide) rfl (fun ls hl => ?_)
    refine lv_iconst (v := nI 1) hx hb dL_where_13 (by decide) ?_
    exact ri hx hb hlk hr (by rw [en_s h1]; exact hw) hS (by rw [h1]; exact cd_1.symm) (vp_nar_int _) (Nat.le_of_ble_eq_true rfl) (Nat.le_of_ble_eq_true rfl) dL_where_14
  refine lv_f2d hx hb dL_where_7 (n64 (hv h1)) ?_
  refine ads (S' := (odU S (va_up (odS S) 0 (FP.f2d (ffS S (kN k)))))) hx hb hw hT hS 14 0 (by decide) (f := odS S) rfl 0 (by decide) (by decide) (mup_od G S (va_up (odS S) 0 (FP.f2d (ffS S (kN k))))) dL_where_8 (fun H locs hw hS => ?_)
  refine lv_goto (tgt := 15) hx hb dL_where_9 (by decide) ?_
  refine lv_iconst (v := nI 0) hx hb dL_where_15 (by decide) ?_
  exact ri hx hb hlk hr (by rw [en_n h1]; exact hw) hS (by rw [h1]; rfl) (vp_nar_int _) (Nat.le_of_ble_eq_true rfl) (Nat.le_of_ble_eq_true rfl) dL_where_16
set_option maxRecDepth 100000 in
set_option maxHeartbeats 1000000 in
theorem h_corner (l : Launch) (G : Gm) (S : St) (hl0 : l.stackTraces = false) (k : Int32) (wh : Int32) (hv : orX (thereX S k) (whX wh (nI 12)) = none → vf_n32 (cnF S k wh)) : PiN l yL_corner wsL_corner ({ frames := 8, cells := 2, slots := 12, locals := 125 } : Room) [.ref (g_ad G 0 0), .int k, .int wh, .ref (g_ad G 14 0)] G S (cdX xI (orX (thereX S k) (whX wh (nI 12)))) (enS (orX (thereX S k) (whX wh (nI 12))) S (odU S (va_up (odS S) 0 (FP.f2d (cnF S k wh))))) := by
  refine entL (cc := cL_corner) (maxL := 5) (ret := (some .int)) (hh := [(0, 10, 13, 32)]) (by decide) rfl (Nat.le_of_ble_eq_true rfl) ?_
  intro p e s m below meth c ls C hw hT hN hS htab hl
  obtain ⟨hx, hb, hr, hml, hown, hts, hlk⟩ := C
  have hl : lv_has ls 5 [(0, .ref (g_ad G 0 0)), (1, .int k), (2, .int wh), (3, .ref (g_ad G 14 0))] := hl
  refine lv_aload_n hx hb dL_corner_0 rfl (lv_at hl 3 rfl) ?_
  refine lv_iconst (v := nI 0) hx hb dL_corner_1 (by decide) ?_
  refine lv_aload_n hx hb dL_corner_2 rfl (lv_at hl 0 rfl) ?_
  refine lv_iload_n hx hb dL_corner_3 rfl (lv_at hl 1 rfl) ?_
  refine lv_iload_n hx hb dL_corner_4 rfl (lv_at hl 2 rfl) ?_
  refine xVf ⟨hx, hb, hml, hown, hts⟩ (c_corner l G S hl0 k wh) (cwV 2 hts gL_corner_X3_corner rfl rfl rfl (by decide +kernel) ⟨(Nat.le_of_ble_eq_true rfl), (Nat.le_of_ble_eq_true rfl)⟩) hw hT hS (rcv hw hT 0 0 (by decide) rfl rfl) (As := [.int k, .int wh]) (rest := [.int (nI 0), .ref (g_ad G 14 0)]) rfl hl.1 rfl (Nat.le_of_ble_eq_true rfl) dL_corner_5 ⟨(Nat.le_of_ble_eq_true rfl), (Nat.le_of_ble_eq_true rfl)⟩ (fun E ce q9 H locs h1 hw hS hce hcv hcl => ?_) (fun H locs h1 hw hS => ?_)
  · skip
    obtain rfl := e_tw h1
    refine vx_catch (own := RL) (name := xI) hown [] ⟨0, 10, 13, 32⟩ [] (htab.trans rfl) (fun z hz => absurd hz List.not_mem_nil) (by decide) (by decide) (hts _ (List.mem_of_getElem? (i := 1) rfl)) (va_Nw.use rfl (hT.2.2.2.1 _ (by decide +kernel))) hce hcv hcl ?_
    refine lv_astore (lv' := [(4, .ref q9), (0, .ref (g_ad G 0 0)), (1, .int k), (2, .int wh), (3, .ref (g_ad G 14 0))]) hx hb dL_corner_13 hl (by decide) rfl (fun ls hl => ?_)
    refine lv_iconst (v := nI 1) hx hb dL_corner_15 (by decide) ?_
    exact ri hx hb hlk hr (by rw [en_s h1]; exact hw) hS (by rw [h1]; exact cd_1.symm) (vp_nar_int _) (Nat.le_of_ble_eq_true rfl) (Nat.le_of_ble_eq_true rfl) dL_corner_16
  refine lv_f2d hx hb dL_corner_8 (n64 (hv h1)) ?_
  refine ads (S' := (odU S (va_up (odS S) 0 (FP.f2d (cnF S k wh))))) hx hb hw hT hS 14 0 (by decide) (f := odS S) rfl 0 (by decide) (by decide) (mup_od G S (va_up (odS S) 0 (FP.f2d (cnF S k wh)))) dL_corner_9 (fun H locs hw hS => ?_)
  refine lv_goto (tgt := 17) hx hb dL_corner_10 (by decide) ?_
  refine lv_iconst (v := nI 0) hx hb dL_corner_17 (by decide) ?_
  exact ri hx hb hlk hr (by rw [en_n h1]; exact hw) hS (by rw [h1]; rfl) (vp_nar_int _) (Nat.le_of_ble_eq_true rfl) (Nat.le_of_ble_eq_true rfl) dL_corner_18
set_option maxRecDepth 100000 in
set_option maxHeartbeats 1000000 in
theorem h_about (l : Launch) (G : Gm) (S : St) (hl0 : l.stackTraces = false) (k : Int32) (wh : Int32) (hi1 : (ipS S).1 < 4) (hi2 : (ipS S).2 < 4) : PiN l yL_about wsL_about ({ frames := 8, cells := 2, slots := 12, locals := 125 } : Room) [.ref (g_ad G 0 0), .int k, .int wh, .ref (g_ad G 13 0)] G S (cdX xI (orX (thereX S k) (whX wh (nI 4)))) (enS (orX (thereX S k) (whX wh (nI 4))) S (ouU S (va_up (ouS S) 0 ((abF S k wh).toInt64)))) := by
  refine entL (cc := cL_about) (maxL := 5) (ret := (some .int)) (hh := [(0, 10, 13, 32)]) (by decide) rfl (Nat.le_of_ble_eq_true rfl) ?_
  intro p e s m below meth c ls C hw hT hN hS htab hl
  obtain ⟨hx, hb, hr, hml, hown, hts, hlk⟩ := C
  have hl : lv_has ls 5 [(0, .ref (g_ad G 0 0)), (1, .int k), (2, .int wh), (3, .ref (g_ad G 13 0))] := hl
  refine lv_aload_n hx hb dL_about_0 rfl (lv_at hl 3 rfl) ?_
  refine lv_iconst (v := nI 0) hx hb dL_about_1 (by decide) ?_
  refine lv_aload_n hx hb dL_about_2 rfl (lv_at hl 0 rfl) ?_
  refine lv_iload_n hx hb dL_about_3 rfl (lv_at hl 1 rfl) ?_
  refine lv_iload_n hx hb dL_about_4 rfl (lv_at hl 2 rfl) ?_
  refine xVi ⟨hx, hb, hml, hown, hts⟩ (c_about l G S hl0 hi1 hi2 k wh) (cwV 2 hts gL_about_X3_about rfl rfl rfl (by decide +kernel) ⟨(Nat.le_of_ble_eq_true rfl), (Nat.le_of_ble_eq_true rfl)⟩) hw hT hS (rcv hw hT 0 0 (by decide) rfl rfl) (As := [.int k, .int wh]) (rest := [.int (nI 0), .ref (g_ad G 13 0)]) rfl hl.1 rfl (Nat.le_of_ble_eq_true rfl) dL_about_5 ⟨(Nat.le_of_ble_eq_true rfl), (Nat.le_of_ble_eq_true rfl)⟩ (fun E ce q9 H locs h1 hw hS hce hcv hcl => ?_) (fun H locs h1 hw hS => ?_)
  · skip
    obtain rfl := e_tw h1
    refine vx_catch (own := RL) (name := xI) hown [] ⟨0, 10, 13, 32⟩ [] (htab.trans rfl) (fun z hz => absurd hz List.not_mem_nil) (by decide) (by decide) (hts _ (List.mem_of_getElem? (i := 1) rfl)) (va_Nw.use rfl (hT.2.2.2.1 _ (by decide +kernel))) hce hcv hcl ?_
    refine lv_astore (lv' := [(4, .ref q9), (0, .ref (g_ad G 0 0)), (1, .int k), (2, .int wh), (3, .ref (g_ad G 13 0))]) hx hb dL_about_13 hl (by decide) rfl (fun ls hl => ?_)
    refine lv_iconst (v := nI 1) hx hb dL_about_15 (by decide) ?_
    exact ri hx hb hlk hr (by rw [en_s h1]; exact hw) hS (by rw [h1]; exact cd_1.symm) (vp_nar_int _) (Nat.le_of_ble_eq_true rfl) (Nat.le_of_ble_eq_true rfl) dL_about_16
  refine lv_i2l hx hb dL_about_8 rfl ?_
  refine als (S' := (ouU S (va_up (ouS S) 0 ((abF S k wh).toInt64)))) hx hb hw hT hS 13 0 (by decide) (f := ouS S) rfl 0 (by decide) (by decide) (mup_ou G S (va_up (ouS S) 0 ((abF S k wh).toInt64))) dL_about_9 (fun H locs hw hS => ?_)
  refine lv_goto (tgt := 17) hx hb dL_about_10 (by decide) ?_
  refine lv_iconst (v := nI 0) hx hb dL_about_17 (by decide) ?_
  exact ri hx hb hlk hr (by rw [en_n h1]; exact hw) hS (by rw [h1]; rfl) (vp_nar_int _) (Nat.le_of_ble_eq_true rfl) (Nat.le_of_ble_eq_true rfl) dL_about_18
set_option maxRecDepth 100000 in
set_option maxHeartbeats 1000000 in
theorem h_count (l : Launch) (G : Gm) (S : St) (hl0 : l.stackTraces = false) (wh : Int32) (hi1 : (ipS S).1 < 4) (hi2 : (ipS S).2 < 4) : PiN l yL_count wsL_count ({ frames := 7, cells := 1, slots := 6, locals := 103 } : Room) [.ref (g_ad G 0 0), .int wh, .ref (g_ad G 13 0)] G S (cdX xI (whX wh (nI 7))) (enS (whX wh (nI 7)) S (ouU S (va_up (ouS S) 0 ((coF S wh).toInt64)))) := by
  refine entL (cc := cL_count) (maxL := 4) (ret := (some .int)) (hh := [(0, 9, 12, 32)]) (by decide) rfl (Nat.le_of_ble_eq_true rfl) ?_
  intro p e s m below meth c ls C hw hT hN hS htab hl
  obtain ⟨hx, hb, hr, hml, hown, hts, hlk⟩ := C
  have hl : lv_has ls 4 [(0, .ref (g_ad G 0 0)), (1, .int wh), (2, .ref (g_ad G 13 0))] := hl
  refine lv_aload_n hx hb dL_count_0 rfl (lv_at hl 2 rfl) ?_
  refine lv_iconst (v := nI 0) hx hb dL_count_1 (by decide) ?_
  refine lv_aload_n hx hb dL_count_2 rfl (lv_at hl 0 rfl) ?_
  refine lv_iload_n hx hb dL_count_3 rfl (lv_at hl 1 rfl) ?_
  refine xVi ⟨hx, hb, hml, hown, hts⟩ (c_count l G S hl0 hi1 hi2 wh) (cwV 1 hts gL_count_X3_count rfl rfl rfl (by decide +kernel) ⟨(Nat.le_of_ble_eq_true rfl), (Nat.le_of_ble_eq_true rfl)⟩) hw hT hS (rcv hw hT 0 0 (by decide) rfl rfl) (As := [.int wh]) (rest := [.int (nI 0), .ref (g_ad G 13 0)]) rfl hl.1 rfl (Nat.le_of_ble_eq_true rfl) dL_count_4 ⟨(Nat.le_of_ble_eq_true rfl), (Nat.le_of_ble_eq_true rfl)⟩ (fun E ce q9 H locs h1 hw hS hce hcv hcl => ?_) (fun H locs h1 hw hS => ?_)
  · skip
    obtain rfl := e_wh h1
    refine vx_catch (own := RL) (name := xI) hown [] ⟨0, 9, 12, 32⟩ [] (htab.trans rfl) (fun z hz => absurd hz List.not_mem_nil) (by decide) (by decide) (hts _ (List.mem_of_getElem? (i := 1) rfl)) (va_Nw.use rfl (hT.2.2.2.1 _ (by decide +kernel))) hce hcv hcl ?_
    refine lv_astore_n (lv' := [(3, .ref q9), (0, .ref (g_ad G 0 0)), (1, .int wh), (2, .ref (g_ad G 13 0))]) hx hb dL_count_12 rfl hl (by decide) rfl (fun ls hl => ?_)
    refine lv_iconst (v := nI 1) hx hb dL_count_13 (by decide) ?_
    exact ri hx hb hlk hr (by rw [en_s h1]; exact hw) hS (by rw [h1]; exact cd_1.symm) (vp_nar_int _) (Nat.le_of_ble_eq_true rfl) (Nat.le_of_ble_eq_true rfl) dL_count_14
  refine lv_i2l hx hb dL_count_7 rfl ?_
  refine als (S' := (ouU S (va_up (ouS S) 0 ((coF S wh).toInt64)))) hx hb hw hT hS 13 0 (by decide) (f := ouS S) rfl 0 (by decide) (by decide) (mup_ou G S (va_up (ouS S) 0 ((coF S wh).toInt64))) dL_count_8 (fun H locs hw hS => ?_)
  refine lv_goto (tgt := 15) hx hb dL_count_9 (by decide) ?_
  refine lv_iconst (v := nI 0) hx hb dL_count_15 (by decide) ?_
  exact ri hx hb hlk hr (by rw [en_n h1]; exact hw) hS (by rw [h1]; rfl) (vp_nar_int _) (Nat.le_of_ble_eq_true rfl) (Nat.le_of_ble_eq_true rfl) dL_count_16
