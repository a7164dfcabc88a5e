/-! The model: its small methods. Rows: floats 0 pad, 1 tight, 2 wide, 3 places, 4 box; ints 0 groups, 1 masks, 2 pairs, 3 next, 4 begun, 5 ended, 6 list; booleans 0 there, 1 touched; numbers 0 thrown, 1 updates, 2 found -/
def gsV (a b : Bool) : Int32 := if a = true then (if b = true then nI 0 else nI 2) else nI 1
def gsS (S : St) (a b : Bool) : St := mnU S (va_up (mnS S) 0 (gsV a b))
def goF (x : UInt32) : Bool := fLe x 1182793728 && fGe x 3330277376
def slF (x y z : UInt32) : Bool := fLe x 1132462080 && (fGe x 3279945728 && (fLe y 1132462080 && (fGe y 3279945728 && (fLe z 1132462080 && fGe z 3279945728))))
def pbF (f : Nat → UInt32) : Bool := fLe (f 0) (f 3) && (fLe (f 1) (f 4) && fLe (f 2) (f 5))
def g3F (x y z : UInt32) : Bool := goF x && (goF y && goF z)
def pcM (S : St) (q : Nat) (x y z : UInt32) : St := if g3F x y z = true then mFU (gsS S (g3F x y z) true) (va_up (mFS S) 0 (va_up (va_up (va_up (mFS S 0) q x) (q + 1) y) (q + 2) z)) else gsS S (g3F x y z) true
def kwF (S : St) (k : Int32) : Bool := bnF k && mZS S 0 (kN k)
def lsR (t : Nat → Bool) : Nat → Nat → Nat
  | 0, b => b
  | n + 1, b => if t b = true then lsR t n (b + 1) else b
def cpR (t f : Nat → UInt32) (b : Nat) : Nat → UInt32 := va_up (va_up (va_up (va_up (va_up (va_up t (6 * b + 0) (f 0)) (6 * b + 1) (f 1)) (6 * b + 2) (f 2)) (6 * b + 3) (f 3)) (6 * b + 4) (f 4)) (6 * b + 5) (f 5)
def tkF (f g : Nat → UInt32) : Nat → UInt32 := va_up (va_up (va_up (va_up (va_up (va_up g 0 (f 0)) 1 (f 1)) 2 (f 2)) 3 (f 3)) 4 (f 4)) 5 (f 5)
def tkS (S : St) : St := mFU S (va_up (mFS S) 4 (tkF (mFS S 0) (mFS S 4)))
def wnF (w f : Nat → UInt32) (b k : Nat) (d : UInt32) : Nat → UInt32 := if fLt d FP.fconst0 = true then va_up (va_up w (6 * b + k) (FP.fadd (FP.fsub (f k) 1048576000) (FP.fmul d FP.fconst2))) (6 * b + 3 + k) (FP.fadd (f (k + 3)) 1048576000) else va_up (va_up w (6 * b + k) (FP.fsub (f k) 1048576000)) (6 * b + 3 + k) (FP.fadd (FP.fadd (f (k + 3)) 1048576000) (FP.fmul d FP.fconst2))
def wnS (S : St) (b k : Nat) (d : UInt32) : St := mFU S (va_up (mFS S) 2 (wnF (mFS S 2) (mFS S 4) b k d))
def tgS (S : St) (b : Nat) : St := mFU S (va_up (mFS S) 1 (cpR (mFS S 1) (mFS S 4) b))
def seT (S : St) (b : Nat) (dx dy dz : UInt32) : St := wnS (wnS (wnS (tgS S b) b 0 dx) b 1 dy) b 2 dz
def seS (S : St) (b : Nat) (dx dy dz : UInt32) : St := mZU (seT S b dx dy dz) (va_up (mZS (seT S b dx dy dz)) 1 (va_up (mZS (seT S b dx dy dz) 1) b true))
theorem tg_4 {S : St} {b : Nat} : mFS (tgS S b) 4 = mFS S 4 := rfl
theorem wn_4 {S : St} {b k : Nat} {d : UInt32} : mFS (wnS S b k d) 4 = mFS S 4 := rfl
def gnF (f : Nat → UInt32) (dx dy dz : UInt32) : Bool := ((((goF (FP.fadd (f 0) dx) && goF (FP.fadd (f 1) dy)) && goF (FP.fadd (f 2) dz)) && goF (FP.fadd (f 3) dx)) && goF (FP.fadd (f 4) dy)) && goF (FP.fadd (f 5) dz)
def gnS (S : St) (dx dy dz : UInt32) : St := mFU S (va_up (mFS S) 4 (mvF (mFS S 4) dx dy dz))
set_option maxRecDepth 100000 in
set_option maxHeartbeats 1000000 in
theorem m_thrown (l : Launch) (G : Gm) (S : St)  : Pi l yX4_thrown wsX4_thrown ({ frames := 0, cells := 0, slots := 0, locals := 0 } : Room) [.ref (g_ad G 9 0)] G S (mnS S 0) S := by
  refine ent (cc := cX4_thrown) (maxL := 1) (ret := (some .int)) (by decide) rfl (Nat.le_of_ble_eq_true rfl) ?_
  intro p e s m below meth c ls C hw hT hS hl
  obtain ⟨hx, hb, hr, hml, hown, hts, hlk⟩ := C
  have hl : lv_has ls 1 [(0, .ref (g_ad G 9 0))] := hl
  refine lv_aload_n hx hb dX4_thrown_0 rfl (lv_at hl 0 rfl) ?_
  refine gf hx hb hown hts hw hT 9 0 (by decide) (ci := 4) rfl rfl (fun _ h => List.mem_cons_of_mem _ (List.mem_append_right _ h)) 0 (by decide) (List.mem_of_getElem? (i := 1) rfl) (v := .int (mnS S 0)) rfl dX4_thrown_1 ?_
  exact ri hx hb hlk hr hw hS rfl (vp_nar_int _) (Nat.le_of_ble_eq_true rfl) (Nat.le_of_ble_eq_true rfl) dX4_thrown_4
set_option maxRecDepth 100000 in
set_option maxHeartbeats 1000000 in
theorem m_goes (l : Launch) (G : Gm) (S : St) (a b : Bool) : Pi l yX4_goes wsX4_goes ({ frames := 0, cells := 0, slots := 0, locals := 0 } : Room) [.ref (g_ad G 9 0), .int (bI a), .int (bI b)] G S (bI (a && b)) (gsS S a b) := by
  refine ent (cc := cX4_goes) (maxL := 3) (ret := (some .boolean)) (by decide) rfl (Nat.le_of_ble_eq_true rfl) ?_
  intro p e s m below meth c ls C hw hT hS hl
  obtain ⟨hx, hb, hr, hml, hown, hts, hlk⟩ := C
  have hl : lv_has ls 3 [(0, .ref (g_ad G 9 0)), (1, .int (bI a)), (2, .int (bI b))] := hl
  refine lv_aload_n hx hb dX4_goes_0 rfl (lv_at hl 0 rfl) ?_
  refine lv_iload_n hx hb dX4_goes_1 rfl (lv_at hl 1 rfl) ?_
  refine lv_if_ne (tgt := 9) hx hb dX4_goes_2 (by decide) (fun h1 => ?_) (fun h1 => ?_)
  · skip
    have h1 := bI_n0.mp h1
    refine lv_iload_n hx hb dX4_goes_9 rfl (lv_at hl 2 rfl) ?_
    refine lv_if_ne (tgt := 17) hx hb dX4_goes_10 (by decide) (fun h2 => ?_) (fun h2 => ?_)
    · skip
      have h2 := bI_n0.mp h2
      refine lv_iconst (v := nI 0) hx hb dX4_goes_17 (by decide) ?_
      refine pf (S' := (mnU S (va_up (mnS S) 0 (nI 0)))) hx hb hown hts hw hT hS 9 0 (by decide) (ci := 4) rfl rfl (fun _ h => List.mem_cons_of_mem _ (List.mem_append_right _ h)) tyX4 tyX4_ok nmX4 0 (by decide) (List.mem_of_getElem? (i := 1) rfl) rfl (ty := .int) (by decide +kernel) (vp_nar_int _) rfl (Nat.le_of_ble_eq_true rfl) (mup_mn0 G S (nI 0)) dX4_goes_18 (fun H locs hw hS => ?_)
      refine lv_aload_n hx hb dX4_goes_21 rfl (lv_at hl 0 rfl) ?_
      refine gf hx hb hown hts hw hT 9 0 (by decide) (ci := 4) rfl rfl (fun _ h => List.mem_cons_of_mem _ (List.mem_append_right _ h)) 0 (by decide) (List.mem_of_getElem? (i := 1) rfl) (v := .int (nI 0)) rfl dX4_goes_22 ?_
      refine lv_if_ne (tgt := 32) hx hb dX4_goes_25 (by decide) (fun q => absurd (by decide) q) (fun _ => ?_)
      refine lv_iconst (v := nI 1) hx hb dX4_goes_28 (by decide) ?_
      refine lv_goto (tgt := 33) hx hb dX4_goes_29 (by decide) ?_
      refine top_i (y := bI true) (by decide) ?_
      exact ri hx hb hlk hr (by unfold gsS gsV; simp only [h1, h2, if_true, if_false, Bool.false_eq_true]; exact hw) hS (congrArg bI (by simp [h1, h2])) (bI_nar _) (Nat.le_of_ble_eq_true rfl) (Nat.le_of_ble_eq_true rfl) dX4_goes_33
    · skip
      have h2 := bI_0.mp h2
      refine lv_iconst (v := nI 2) hx hb dX4_goes_13 (by decide) ?_
      refine lv_goto (tgt := 18) hx hb dX4_goes_14 (by decide) ?_
      refine pf (S' := (mnU S (va_up (mnS S) 0 (nI 2)))) hx hb hown hts hw hT hS 9 0 (by decide) (ci := 4) rfl rfl (fun _ h => List.mem_cons_of_mem _ (List.mem_append_right _ h)) tyX4 tyX4_ok nmX4 0 (by decide) (List.mem_of_getElem? (i := 1) rfl) rfl (ty := .int) (by decide +kernel) (vp_nar_int _) rfl (Nat.le_of_ble_eq_true rfl) (mup_mn0 G S (nI 2)) dX4_goes_18 (fun H locs hw hS => ?_)
      refine lv_aload_n hx hb dX4_goes_21 rfl (lv_at hl 0 rfl) ?_
      refine gf hx hb hown hts hw hT 9 0 (by decide) (ci := 4) rfl rfl (fun _ h => List.mem_cons_of_mem _ (List.mem_append_right _ h)) 0 (by decide) (List.mem_of_getElem? (i := 1) rfl) (v := .int (nI 2)) rfl dX4_goes_22 ?_
      refine lv_if_ne (tgt := 32) hx hb dX4_goes_25 (by decide) (fun _ => ?_) (fun q => absurd q (by decide))
      refine lv_iconst (v := nI 0) hx hb dX4_goes_32 (by decide) ?_
      refine top_i (y := bI false) (by decide) ?_
      exact ri hx hb hlk hr (by unfold gsS gsV; simp only [h1, h2, if_true, if_false, Bool.false_eq_true]; exact hw) hS (congrArg bI (by simp [h1, h2])) (bI_nar _) (Nat.le_of_ble_eq_true rfl) (Nat.le_of_ble_eq_true rfl) dX4_goes_33
  · skip
    have h1 := bI_0.mp h1
    refine lv_iconst (v := nI 1) hx hb dX4_goes_5 (by decide) ?_
    refine lv_goto (tgt := 18) hx hb dX4_goes_6 (by decide) ?_
    refine pf (S' := (mnU S (va_up (mnS S) 0 (nI 1)))) hx hb hown hts hw hT hS 9 0 (by decide) (ci := 4) rfl rfl (fun _ h => List.mem_cons_of_mem _ (List.mem_append_right _ h)) tyX4 tyX4_ok nmX4 0 (by decide) (List.mem_of_getElem? (i := 1) rfl) rfl (ty := .int) (by decide +kernel) (vp_nar_int _) rfl (Nat.le_of_ble_eq_true rfl) (mup_mn0 G S (nI 1)) dX4_goes_18 (fun H locs hw hS => ?_)
    refine lv_aload_n hx hb dX4_goes_21 rfl (lv_at hl 0 rfl) ?_
    refine gf hx hb hown hts hw hT 9 0 (by decide) (ci := 4) rfl rfl (fun _ h => List.mem_cons_of_mem _ (List.mem_append_right _ h)) 0 (by decide) (List.mem_of_getElem? (i := 1) rfl) (v := .int (nI 1)) rfl dX4_goes_22 ?_
    refine lv_if_ne (tgt := 32) hx hb dX4_goes_25 (by decide) (fun _ => ?_) (fun q => absurd q (by decide))
    refine lv_iconst (v := nI 0) hx hb dX4_goes_32 (by decide) ?_
    refine top_i (y := bI false) (by decide) ?_
    exact ri hx hb hlk hr (by unfold gsS gsV; simp only [h1, if_true, if_false, Bool.false_eq_true]; exact hw) hS (congrArg bI (by simp [h1])) (bI_nar _) (Nat.le_of_ble_eq_true rfl) (Nat.le_of_ble_eq_true rfl) dX4_goes_33
set_option maxRecDepth 100000 in
set_option maxHeartbeats 1000000 in
theorem m_good (l : Launch) (G : Gm) (S : St) (x : UInt32) : Pi l yX4_good wsX4_good ({ frames := 0, cells := 0, slots := 0, locals := 0 } : Room) [.float x] G S (bI (goF x)) S := by
  refine ent (cc := cX4_good) (maxL := 1) (ret := (some .boolean)) (by decide) rfl (Nat.le_of_ble_eq_true rfl) ?_
  intro p e s m below meth c ls C hw hT hS hl
  obtain ⟨hx, hb, hr, hml, hown, hts, hlk⟩ := C
  have hl : lv_has ls 1 [(0, .float x)] := hl
  refine lv_fload_n hx hb dX4_good_0 rfl (lv_at hl 0 rfl) ?_
  refine lv_ldcf (v := 1182793728) hx hb hown (hts _ (List.mem_of_getElem? (i := 1) rfl)) dX4_good_1 ?_
  refine fc_ggt (x := x) (y := 1182793728) (tgt := 18) hx hb dX4_good_3 dX4_good_4 (by decide) (fun h1 => ?_) (fun h1 => ?_)
  · skip
    refine lv_iconst (v := nI 0) hx hb dX4_good_18 (by decide) ?_
    refine top_i (y := bI false) (by decide) ?_
    exact ri hx hb hlk hr hw hS (congrArg bI (by simp [goF, h1])) (bI_nar _) (Nat.le_of_ble_eq_true rfl) (Nat.le_of_ble_eq_true rfl) dX4_good_19
  · skip
    refine lv_fload_n hx hb dX4_good_7 rfl (lv_at hl 0 rfl) ?_
    refine lv_ldcf (v := 3330277376) hx hb hown (hts _ (List.mem_of_getElem? (i := 2) rfl)) dX4_good_8 ?_
    refine fc_llt (x := x) (y := 3330277376) (tgt := 18) hx hb dX4_good_10 dX4_good_11 (by decide) (fun h2 => ?_) (fun h2 => ?_)
    · skip
      refine lv_iconst (v := nI 0) hx hb dX4_good_18 (by decide) ?_
      refine top_i (y := bI false) (by decide) ?_
      exact ri hx hb hlk hr hw hS (congrArg bI (by simp [goF, h1, h2])) (bI_nar _) (Nat.le_of_ble_eq_true rfl) (Nat.le_of_ble_eq_true rfl) dX4_good_19
    · skip
      refine lv_iconst (v := nI 1) hx hb dX4_good_14 (by decide) ?_
      refine lv_goto (tgt := 19) hx hb dX4_good_15 (by decide) ?_
      refine top_i (y := bI true) (by decide) ?_
      exact ri hx hb hlk hr hw hS (congrArg bI (by simp [goF, h1, h2])) (bI_nar _) (Nat.le_of_ble_eq_true rfl) (Nat.le_of_ble_eq_true rfl) dX4_good_19
set_option maxRecDepth 100000 in
set_option maxHeartbeats 1000000 in
theorem m_slow (l : Launch) (G : Gm) (S : St) (x y z : UInt32) : Pi l yX4_slow wsX4_slow ({ frames := 0, cells := 0, slots := 0, locals := 0 } : Room) [.float x, .float y, .float z] G S (bI (slF x y z)) S := by
  refine ent (cc := cX4_slow) (maxL := 3) (ret := (some .boolean)) (by decide) rfl (Nat.le_of_ble_eq_true rfl) ?_
  intro p e s m below meth c ls C hw hT hS hl
  obtain ⟨hx, hb, hr, hml, hown, hts, hlk⟩ := C
  have hl : lv_has ls 3 [(0, .float x), (1, .float y), (2, .float z)] := hl
  refine lv_fload_n hx hb dX4_slow_0 rfl (lv_at hl 0 rfl) ?_
  refine lv_ldcf (v := 1132462080) hx hb hown (hts _ (List.mem_of_getElem? (i := 1) rfl)) dX4_slow_1 ?_
  refine fc_ggt (x := x) (y := 1132462080) (tgt := 46) hx hb dX4_slow_3 dX4_slow_4 (by decide) (fun h1 => ?_) (fun h1 => ?_)
  · skip
    refine lv_iconst (v := nI 0) hx hb dX4_slow_46 (by decide) ?_
    refine top_i (y := bI false) (by decide) ?_
    exact ri hx hb hlk hr hw hS (congrArg bI (by simp [slF, h1])) (bI_nar _) (Nat.le_of_ble_eq_true rfl) (Nat.le_of_ble_eq_true rfl) dX4_slow_47
  · skip
    refine lv_fload_n hx hb dX4_slow_7 rfl (lv_at hl 0 rfl) ?_
    refine lv_ldcf (v := 3279945728) hx hb hown (hts _ (List.mem_of_getElem? (i := 2) rfl)) dX4_slow_8 ?_
    refine fc_llt (x := x) (y := 3279945728) (tgt := 46) hx hb dX4_slow_10 dX4_slow_11 (by decide) (fun h2 => ?_) (fun h2 => ?_)
    · skip
      refine lv_iconst (v := nI 0) hx hb dX4_slow_46 (by decide) ?_
      refine top_i (y := bI false) (by decide) ?_
      exact ri hx hb hlk hr hw hS (congrArg bI (by simp [slF, h1, h2])) (bI_nar _) (Nat.le_of_ble_eq_true rfl) (Nat.le_of_ble_eq_true rfl) dX4_slow_47
    · skip
      refine lv_fload_n hx hb dX4_slow_14 rfl (lv_at hl 1 rfl) ?_
      refine lv_ldcf (v := 1132462080) hx hb hown (hts _ (List.mem_of_getElem? (i := 1) rfl)) dX4_slow_15 ?_
      refine fc_ggt (x := y) (y := 1132462080) (tgt := 46) hx hb dX4_slow_17 dX4_slow_18 (by decide) (fun h3 => ?_) (fun h3 => ?_)
      · skip
        refine lv_iconst (v := nI 0) hx hb dX4_slow_46 (by decide) ?_
        refine top_i (y := bI false) (by decide) ?_
        exact ri hx hb hlk hr hw hS (congrArg bI (by simp [slF, h1, h2, h3])) (bI_nar _) (Nat.le_of_ble_eq_true rfl) (Nat.le_of_ble_eq_true rfl) dX4_slow_47
      · skip
        refine lv_fload_n hx hb dX4_slow_21 rfl (lv_at hl 1 rfl) ?_
        refine lv_ldcf (v := 3279945728) hx hb hown (hts _ (List.mem_of_getElem? (i := 2) rfl)) dX4_slow_22 ?_
        refine fc_llt (x := y) (y := 3279945728) (tgt := 46) hx hb dX4_slow_24 dX4_slow_25 (by decide) (fun h4 => ?_) (fun h4 => ?_)
        · skip
          refine lv_iconst (v := nI 0) hx hb dX4_slow_46 (by decide) ?_
          refine top_i (y := bI false) (by decide) ?_
          exact ri hx hb hlk hr hw hS (congrArg bI (by simp [slF, h1, h2, h3, h4])) (bI_nar _) (Nat.le_of_ble_eq_true rfl) (Nat.le_of_ble_eq_true rfl) dX4_slow_47
        · skip
          refine lv_fload_n hx hb dX4_slow_28 rfl (lv_at hl 2 rfl) ?_
          refine lv_ldcf (v := 1132462080) hx hb hown (hts _ (List.mem_of_getElem? (i := 1) rfl)) dX4_slow_29 ?_
          refine fc_ggt (x := z) (y := 1132462080) (tgt := 46) hx hb dX4_slow_31 dX4_slow_32 (by decide) (fun h5 => ?_) (fun h5 => ?_)
          · skip
            refine lv_iconst (v := nI 0) hx hb dX4_slow_46 (by decide) ?_
            refine top_i (y := bI false) (by decide) ?_
            exact ri hx hb hlk hr hw hS (congrArg bI (by simp [slF, h1, h2, h3, h4, h5])) (bI_nar _) (Nat.le_of_ble_eq_true rfl) (Nat.le_of_ble_eq_true rfl) dX4_slow_47
          · skip
            refine lv_fload_n hx hb dX4_slow_35 rfl (lv_at hl 2 rfl) ?_
            refine lv_ldcf (v := 3279945728) hx hb hown (hts _ (List.mem_of_getElem? (i := 2) rfl)) dX4_slow_36 ?_
            refine fc_llt (x := z) (y := 3279945728) (tgt := 46) hx hb dX4_slow_38 dX4_slow_39 (by decide) (fun h6 => ?_) (fun h6 => ?_)
            · skip
              refine lv_iconst (v := nI 0) hx hb dX4_slow_46 (by decide) ?_
              refine top_i (y := bI false) (by decide) ?_
              exact ri hx hb hlk hr hw hS (congrArg bI (by simp [slF, h1, h2, h3, h4, h5, h6])) (bI_nar _) (Nat.le_of_ble_eq_true rfl) (Nat.le_of_ble_eq_true rfl) dX4_slow_47
            · skip
              refine lv_iconst (v := nI 1) hx hb dX4_slow_42 (by decide) ?_
              refine lv_goto (tgt := 47) hx hb dX4_slow_43 (by decide) ?_
              refine top_i (y := bI true) (by decide) ?_
              exact ri hx hb hlk hr hw hS (congrArg bI (by simp [slF, h1, h2, h3, h4, h5, h6])) (bI_nar _) (Nat.le_of_ble_eq_true rfl) (Nat.le_of_ble_eq_true rfl) dX4_slow_47
set_option maxRecDepth 100000 in
set_option maxHeartbeats 1000000 in
theorem m_padIsBox (l : Launch) (G : Gm) (S : St)  : Pi l yX4_padIsBox wsX4_padIsBox ({ frames := 0, cells := 0, slots := 0, locals := 0 } : Room) [.ref (g_ad G 9 0)] G S (bI (pbF (mFS S 0))) S := by
  refine ent (cc := cX4_padIsBox) (maxL := 1) (ret := (some .boolean)) (by decide) rfl (Nat.le_of_ble_eq_true rfl) ?_
  intro p e s m below meth c ls C hw hT hS hl
  obtain ⟨hx, hb, hr, hml, hown, hts, hlk⟩ := C
  have hl : lv_has ls 1 [(0, .ref (g_ad G 9 0))] := hl
  refine lv_aload_n hx hb dX4_padIsBox_0 rfl (lv_at hl 0 rfl) ?_
  refine gf hx hb hown hts hw hT 9 0 (by decide) (ci := 4) rfl rfl (fun _ h => List.mem_cons_of_mem _ (List.mem_append_right _ h)) 1 (by decide) (List.mem_of_getElem? (i := 1) rfl) (v := .ref (g_ad G 10 0)) rfl dX4_padIsBox_1 ?_
  refine lv_iconst (v := nI 0) hx hb dX4_padIsBox_4 (by decide) ?_
  refine afl hx hb hw hT 10 0 (by decide) (f := mFS S 0) rfl 0 (by decide) (by decide) dX4_padIsBox_5 ?_
  refine lv_aload_n hx hb dX4_padIsBox_6 rfl (lv_at hl 0 rfl) ?_
  refine gf hx hb hown hts hw hT 9 0 (by decide) (ci := 4) rfl rfl (fun _ h => List.mem_cons_of_mem _ (List.mem_append_right _ h)) 1 (by decide) (List.mem_of_getElem? (i := 1) rfl) (v := .ref (g_ad G 10 0)) rfl dX4_padIsBox_7 ?_
  refine lv_iconst (v := nI 3) hx hb dX4_padIsBox_10 (by decide) ?_
  refine afl hx hb hw hT 10 0 (by decide) (f := mFS S 0) rfl 3 (by decide) (by decide) dX4_padIsBox_11 ?_
  refine fc_ggt (x := mFS S 0 0) (y := mFS S 0 3) (tgt := 52) hx hb dX4_padIsBox_12 dX4_padIsBox_13 (by decide) (fun h1 => ?_) (fun h1 => ?_)
  · skip
    refine lv_iconst (v := nI 0) hx hb dX4_padIsBox_52 (by decide) ?_
    refine top_i (y := bI false) (by decide) ?_
    exact ri hx hb hlk hr hw hS (congrArg bI (by simp [pbF, h1])) (bI_nar _) (Nat.le_of_ble_eq_true rfl) (Nat.le_of_ble_eq_true rfl) dX4_padIsBox_53
  · skip
    refine lv_aload_n hx hb dX4_padIsBox_16 rfl (lv_at hl 0 rfl) ?_
    refine gf hx hb hown hts hw hT 9 0 (by decide) (ci := 4) rfl rfl (fun _ h => List.mem_cons_of_mem _ (List.mem_append_right _ h)) 1 (by decide) (List.mem_of_getElem? (i := 1) rfl) (v := .ref (g_ad G 10 0)) rfl dX4_padIsBox_17 ?_
    refine lv_iconst (v := nI 1) hx hb dX4_padIsBox_20 (by decide) ?_
    refine afl hx hb hw hT 10 0 (by decide) (f := mFS S 0) rfl 1 (by decide) (by decide) dX4_padIsBox_21 ?_
    refine lv_aload_n hx hb dX4_padIsBox_22 rfl (lv_at hl 0 rfl) ?_
    refine gf hx hb hown hts hw hT 9 0 (by decide) (ci := 4) rfl rfl (fun _ h => List.mem_cons_of_mem _ (List.mem_append_right _ h)) 1 (by decide) (List.mem_of_getElem? (i := 1) rfl) (v := .ref (g_ad G 10 0)) rfl dX4_padIsBox_23 ?_
    refine lv_iconst (v := nI 4) hx hb dX4_padIsBox_26 (by decide) ?_
    refine afl hx hb hw hT 10 0 (by decide) (f := mFS S 0) rfl 4 (by decide) (by decide) dX4_padIsBox_27 ?_
    refine fc_ggt (x := mFS S 0 1) (y := mFS S 0 4) (tgt := 52) hx hb dX4_padIsBox_28 dX4_padIsBox_29 (by decide) (fun h2 => ?_) (fun h2 => ?_)
    · skip
      refine lv_iconst (v := nI 0) hx hb dX4_padIsBox_52 (by decide) ?_
      refine top_i (y := bI false) (by decide) ?_
      exact ri hx hb hlk hr hw hS (congrArg bI (by simp [pbF, h1, h2])) (bI_nar _) (Nat.le_of_ble_eq_true rfl) (Nat.le_of_ble_eq_true rfl) dX4_padIsBox_53
    · skip
      refine lv_aload_n hx hb dX4_padIsBox_32 rfl (lv_at hl 0 rfl) ?_
      refine gf hx hb hown hts hw hT 9 0 (by decide) (ci := 4) rfl rfl (fun _ h => List.mem_cons_of_mem _ (List.mem_append_right _ h)) 1 (by decide) (List.mem_of_getElem? (i := 1) rfl) (v := .ref (g_ad G 10 0)) rfl dX4_padIsBox_33 ?_
      refine lv_iconst (v := nI 2) hx hb dX4_padIsBox_36 (by decide) ?_
      refine afl hx hb hw hT 10 0 (by decide) (f := mFS S 0) rfl 2 (by decide) (by decide) dX4_padIsBox_37 ?_
      refine lv_aload_n hx hb dX4_padIsBox_38 rfl (lv_at hl 0 rfl) ?_
      refine gf hx hb hown hts hw hT 9 0 (by decide) (ci := 4) rfl rfl (fun _ h => List.mem_cons_of_mem _ (List.mem_append_right _ h)) 1 (by decide) (List.mem_of_getElem? (i := 1) rfl) (v := .ref (g_ad G 10 0)) rfl dX4_padIsBox_39 ?_
      refine lv_iconst (v := nI 5) hx hb dX4_padIsBox_42 (by decide) ?_
      refine afl hx hb hw hT 10 0 (by decide) (f := mFS S 0) rfl 5 (by decide) (by decide) dX4_padIsBox_43 ?_
      refine fc_ggt (x := mFS S 0 2) (y := mFS S 0 5) (tgt := 52) hx hb dX4_padIsBox_44 dX4_padIsBox_45 (by decide) (fun h3 => ?_) (fun h3 => ?_)
      · skip
        refine lv_iconst (v := nI 0) hx hb dX4_padIsBox_52 (by decide) ?_
        refine top_i (y := bI false) (by decide) ?_
        exact ri hx hb hlk hr hw hS (congrArg bI (by simp [pbF, h1, h2, h3])) (bI_nar _) (Nat.le_of_ble_eq_true rfl) (Nat.le_of_ble_eq_true rfl) dX4_padIsBox_53
      · skip
        refine lv_iconst (v := nI 1) hx hb dX4_padIsBox_48 (by decide) ?_
        refine lv_goto (tgt := 53) hx hb dX4_padIsBox_49 (by decide) ?_
        refine top_i (y := bI true) (by decide) ?_
        exact ri hx hb hlk hr hw hS (congrArg bI (by simp [pbF, h1, h2, h3])) (bI_nar _) (Nat.le_of_ble_eq_true rfl) (Nat.le_of_ble_eq_true rfl) dX4_padIsBox_53
set_option maxRecDepth 100000 in
set_option maxHeartbeats 1000000 in
theorem m_padCorner0 (l : Launch) (G : Gm) (S : St) (x y z : UInt32) : Pv l yX4_padCorner wsX4_padCorner ({ frames := 1, cells := 0, slots := 0, locals := 22 } : Room) [.ref (g_ad G 9 0), .int (nI 0), .float x, .float y, .float z] G S (pcM S 0 x y z) := by
  refine ent (cc := cX4_padCorner) (maxL := 5) (ret := none) (by decide) rfl (Nat.le_of_ble_eq_true rfl) ?_
  intro p e s m below meth c ls C hw hT hS hl
  obtain ⟨hx, hb, hr, hml, hown, hts, hlk⟩ := C
  have hl : lv_has ls 5 [(0, .ref (g_ad G 9 0)), (1, .int (nI 0)), (2, .float x), (3, .float y), (4, .float z)] := hl
  refine lv_aload_n hx hb dX4_padCorner_0 rfl (lv_at hl 0 rfl) ?_
  have K1 : ∀ (b9 : Bool) (H : Heap) (locs : List Loc), b9 = (g3F x y z) → wdM G S H s → va_S (g_A G) s.heap H locs → W p l e ({ frames := 1, cells := 0, slots := 0, locals := 22 } : Room) s m ([.ref (g_ad G 9 0), .int (nI 0), .float x, .float y, .float z] : List Value).toArray below meth c H locs 0 0 (MQ below (Qv G (pcM S 0 x y z)) ([.ref (g_ad G 9 0), .int (nI 0), .float x, .float y, .float z] : List Value).toArray s ({ frames := 1, cells := 0, slots := 0, locals := 22 } : Room).cells ({ frames := 1, cells := 0, slots := 0, locals := 22 } : Room).slots (g_A G)) (F0 m 28 ls [.int (bI b9), .ref (g_ad G 9 0)]) := by
    intro b9 H locs hb9 hw hS
    subst hb9
    refine lv_iconst (v := nI 1) hx hb dX4_padCorner_28 (by decide) ?_
    refine top_i (y := bI true) (by decide) ?_
    refine cVi ⟨hx, hb, hml, hown, hts⟩ (m_goes l G S (g3F x y z) true) (cwV 2 hts gX4_padCorner_X4_goes rfl rfl rfl (by decide +kernel) ⟨(Nat.le_of_ble_eq_true rfl), (Nat.le_of_ble_eq_true rfl)⟩) hw hT hS (rcv hw hT 9 0 (by decide) rfl rfl) (As := [.int (bI (g3F x y z)), .int (bI true)]) (rest := []) rfl hl.1 rfl (Nat.le_of_ble_eq_true rfl) dX4_padCorner_29 ⟨(Nat.le_of_ble_eq_true rfl), (Nat.le_of_ble_eq_true rfl)⟩ (fun H locs hw hS => ?_)
    refine lv_if_eq (tgt := 61) hx hb dX4_padCorner_32 (by decide) (fun h2 => ?_) (fun h2 => ?_)
    · skip
      have h2 := bI_0.mp h2
      exact rv hx hb hlk hr (by unfold pcM; rw [if_neg (by simpa using h2)]; exact hw) hS  (Nat.le_of_ble_eq_true rfl) (Nat.le_of_ble_eq_true rfl) dX4_padCorner_61
    · skip
      have h2 := bI_n0.mp h2
      refine lv_aload_n hx hb dX4_padCorner_35 rfl (lv_at hl 0 rfl) ?_
      refine gf hx hb hown hts hw hT 9 0 (by decide) (ci := 4) rfl rfl (fun _ h => List.mem_cons_of_mem _ (List.mem_append_right _ h)) 1 (by decide) (List.mem_of_getElem? (i := 1) rfl) (v := .ref (g_ad G 10 0)) rfl dX4_padCorner_36 ?_
      refine lv_iload_n hx hb dX4_padCorner_39 rfl (lv_at hl 1 rfl) ?_
      refine lv_fload_n hx hb dX4_padCorner_40 rfl (lv_at hl 2 rfl) ?_
      refine afs (S' := (mFU (gsS S (g3F x y z) true) (va_up (mFS (gsS S (g3F x y z) true)) 0 (va_up (mFS (gsS S (g3F x y z) true) 0) 0 x)))) hx hb hw hT hS 10 0 (by decide) (f := mFS (gsS S (g3F x y z) true) 0) rfl 0 (by decide) (by decide) (mup_mF G (gsS S (g3F x y z) true) 0 (va_up (mFS (gsS S (g3F x y z) true) 0) 0 x)) dX4_padCorner_41 (fun H locs hw hS => ?_)
      refine lv_aload_n hx hb dX4_padCorner_42 rfl (lv_at hl 0 rfl) ?_
      refine gf hx hb hown hts hw hT 9 0 (by decide) (ci := 4) rfl rfl (fun _ h => List.mem_cons_of_mem _ (List.mem_append_right _ h)) 1 (by decide) (List.mem_of_getElem? (i := 1) rfl) (v := .ref (g_ad G 10 0)) rfl dX4_padCorner_43 ?_
      refine lv_iload_n hx hb dX4_padCorner_46 rfl (lv_at hl 1 rfl) ?_
      refine lv_iconst (v := nI 1) hx hb dX4_padCorner_47 (by decide) ?_
      refine lv_iadd hx hb dX4_padCorner_48 ?_
      refine top_i (y := nI 1) (by decide) ?_
      refine lv_fload_n hx hb dX4_padCorner_49 rfl (lv_at hl 3 rfl) ?_
      refine afs (S' := (mFU (gsS S (g3F x y z) true) (va_up (mFS (gsS S (g3F x y z) true)) 0 (va_up (va_up (mFS (gsS S (g3F x y z) true) 0) 0 x) 1 y)))) hx hb hw hT hS 10 0 (by decide) (f := va_up (mFS (gsS S (g3F x y z) true) 0) 0 x) rfl 1 (by decide) (by decide) (mup2_mF G (gsS S (g3F x y z) true) 0 _ (va_up (va_up (mFS (gsS S (g3F x y z) true) 0) 0 x) 1 y)) dX4_padCorner_50 (fun H locs hw hS => ?_)
      refine lv_aload_n hx hb dX4_padCorner_51 rfl (lv_at hl 0 rfl) ?_
      refine gf hx hb hown hts hw hT 9 0 (by decide) (ci := 4) rfl rfl (fun _ h => List.mem_cons_of_mem _ (List.mem_append_right _ h)) 1 (by decide) (List.mem_of_getElem? (i := 1) rfl) (v := .ref (g_ad G 10 0)) rfl dX4_padCorner_52 ?_
      refine lv_iload_n hx hb dX4_padCorner_55 rfl (lv_at hl 1 rfl) ?_
      refine lv_iconst (v := nI 2) hx hb dX4_padCorner_56 (by decide) ?_
      refine lv_iadd hx hb dX4_padCorner_57 ?_
      refine top_i (y := nI 2) (by decide) ?_
      refine lv_fload hx hb dX4_padCorner_58 (lv_at hl 4 rfl) ?_
      refine afs (S' := (mFU (gsS S (g3F x y z) true) (va_up (mFS (gsS S (g3F x y z) true)) 0 (va_up (va_up (va_up (mFS (gsS S (g3F x y z) true) 0) 0 x) 1 y) 2 z)))) hx hb hw hT hS 10 0 (by decide) (f := va_up (va_up (mFS (gsS S (g3F x y z) true) 0) 0 x) 1 y) rfl 2 (by decide) (by decide) (mup2_mF G (gsS S (g3F x y z) true) 0 _ (va_up (va_up (va_up (mFS (gsS S (g3F x y z) true) 0) 0 x) 1 y) 2 z)) dX4_padCorner_60 (fun H locs hw hS => ?_)
      exact rv hx hb hlk hr (by unfold pcM; rw [if_pos (by simpa using h2)]; exact hw) hS  (Nat.le_of_ble_eq_true rfl) (Nat.le_of_ble_eq_true rfl) dX4_padCorner_61
  refine lv_fload_n hx hb dX4_padCorner_1 rfl (lv_at hl 2 rfl) ?_
  refine cSi ⟨hx, hb, hml, hown, hts⟩ (m_good l G S x) (va_cwS 1 hts gX4_padCorner_X4_good rfl rfl rfl (by decide +kernel) ⟨(Nat.le_of_ble_eq_true rfl), (Nat.le_of_ble_eq_true rfl)⟩) hw hT hS (As := [.float x]) (rest := [.ref (g_ad G 9 0)]) rfl hl.1 rfl (Nat.le_of_ble_eq_true rfl) dX4_padCorner_2 ⟨(Nat.le_of_ble_eq_true rfl), (Nat.le_of_ble_eq_true rfl)⟩ (fun H locs hw hS => ?_)
  refine lv_if_eq (tgt := 27) hx hb dX4_padCorner_5 (by decide) (fun h3 => ?_) (fun h3 => ?_)
  · skip
    have h3 := bI_0.mp h3
    refine lv_iconst (v := nI 0) hx hb dX4_padCorner_27 (by decide) ?_
    refine top_i (y := bI false) (by decide) ?_
    exact K1 false _ _ (by first | (simp only [g3F, h3, Bool.true_and, Bool.false_and, Bool.and_true, Bool.and_false]; done) | simp [g3F, h3]) hw hS
  · skip
    have h3 := bI_n0.mp h3
    refine lv_fload_n hx hb dX4_padCorner_8 rfl (lv_at hl 3 rfl) ?_
    refine cSi ⟨hx, hb, hml, hown, hts⟩ (m_good l G S y) (va_cwS 1 hts gX4_padCorner_X4_good rfl rfl rfl (by decide +kernel) ⟨(Nat.le_of_ble_eq_true rfl), (Nat.le_of_ble_eq_true rfl)⟩) hw hT hS (As := [.float y]) (rest := [.ref (g_ad G 9 0)]) rfl hl.1 rfl (Nat.le_of_ble_eq_true rfl) dX4_padCorner_9 ⟨(Nat.le_of_ble_eq_true rfl), (Nat.le_of_ble_eq_true rfl)⟩ (fun H locs hw hS => ?_)
    refine lv_if_eq (tgt := 27) hx hb dX4_padCorner_12 (by decide) (fun h4 => ?_) (fun h4 => ?_)
    · skip
      have h4 := bI_0.mp h4
      refine lv_iconst (v := nI 0) hx hb dX4_padCorner_27 (by decide) ?_
      refine top_i (y := bI false) (by decide) ?_
      exact K1 false _ _ (by first | (simp only [g3F, h3, h4, Bool.true_and, Bool.false_and, Bool.and_true, Bool.and_false]; done) | simp [g3F, h3, h4]) hw hS
    · skip
      have h4 := bI_n0.mp h4
      refine lv_fload hx hb dX4_padCorner_15 (lv_at hl 4 rfl) ?_
      refine cSi ⟨hx, hb, hml, hown, hts⟩ (m_good l G S z) (va_cwS 1 hts gX4_padCorner_X4_good rfl rfl rfl (by decide +kernel) ⟨(Nat.le_of_ble_eq_true rfl), (Nat.le_of_ble_eq_true rfl)⟩) hw hT hS (As := [.float z]) (rest := [.ref (g_ad G 9 0)]) rfl hl.1 rfl (Nat.le_of_ble_eq_true rfl) dX4_padCorner_17 ⟨(Nat.le_of_ble_eq_true rfl), (Nat.le_of_ble_eq_true rfl)⟩ (fun H locs hw hS => ?_)
      refine lv_if_eq (tgt := 27) hx hb dX4_padCorner_20 (by decide) (fun h5 => ?_) (fun h5 => ?_)
      · skip
        have h5 := bI_0.mp h5
        refine lv_iconst (v := nI 0) hx hb dX4_padCorner_27 (by decide) ?_
        refine top_i (y := bI false) (by decide) ?_
        exact K1 false _ _ (by first | (simp only [g3F, h3, h4, h5, Bool.true_and, Bool.false_and, Bool.and_true, Bool.and_false]; done) | simp [g3F, h3, h4, h5]) hw hS
      · skip
        have h5 := bI_n0.mp h5
        refine lv_iconst (v := nI 1) hx hb dX4_padCorner_23 (by decide) ?_
        refine lv_goto (tgt := 28) hx hb dX4_padCorner_24 (by decide) ?_
        refine top_i (y := bI true) (by decide) ?_
        exact K1 true _ _ (by first | (simp only [g3F, h3, h4, h5, Bool.true_and, Bool.false_and, Bool.and_true, Bool.and_false]; done) | simp [g3F, h3, h4, h5]) hw hS
set_option maxRecDepth 100000 in
set_option maxHeartbeats 1000000 in
theorem m_padCorner3 (l : Launch) (G : Gm) (S : St) (x y z : UInt32) : Pv l yX4_padCorner wsX4_padCorner ({ frames := 1, cells := 0, slots := 0, locals := 22 } : Room) [.ref (g_ad G 9 0), .int (nI 3), .float x, .float y, .float z] G S (pcM S 3 x y z) := by
  refine ent (cc := cX4_padCorner) (maxL := 5) (ret := none) (by decide) rfl (Nat.le_of_ble_eq_true rfl) ?_
  intro p e s m below meth c ls C hw hT hS hl
  obtain ⟨hx, hb, hr, hml, hown, hts, hlk⟩ := C
  have hl : lv_has ls 5 [(0, .ref (g_ad G 9 0)), (1, .int (nI 3)), (2, .float x), (3, .float y), (4, .float z)] := hl
  refine lv_aload_n hx hb dX4_padCorner_0 rfl (lv_at hl 0 rfl) ?_
  have K1 : ∀ (b9 : Bool) (H : Heap) (locs : List Loc), b9 = (g3F x y z) → wdM G S H s → va_S (g_A G) s.heap H locs → W p l e ({ frames := 1, cells := 0, slots := 0, locals := 22 } : Room) s m ([.ref (g_ad G 9 0), .int (nI 3), .float x, .float y, .float z] : List Value).toArray below meth c H locs 0 0 (MQ below (Qv G (pcM S 3 x y z)) ([.ref (g_ad G 9 0), .int (nI 3), .float x, .float y, .float z] : List Value).toArray s ({ frames := 1, cells := 0, slots := 0, locals := 22 } : Room).cells ({ frames := 1, cells := 0, slots := 0, locals := 22 } : Room).slots (g_A G)) (F0 m 28 ls [.int (bI b9), .ref (g_ad G 9 0)]) := by
    intro b9 H locs hb9 hw hS
    subst hb9
    refine lv_iconst (v := nI 1) hx hb dX4_padCorner_28 (by decide) ?_
    refine top_i (y := bI true) (by decide) ?_
    refine cVi ⟨hx, hb, hml, hown, hts⟩ (m_goes l G S (g3F x y z) true) (cwV 2 hts gX4_padCorner_X4_goes rfl rfl rfl (by decide +kernel) ⟨(Nat.le_of_ble_eq_true rfl), (Nat.le_of_ble_eq_true rfl)⟩) hw hT hS (rcv hw hT 9 0 (by decide) rfl rfl) (As := [.int (bI (g3F x y z)), .int (bI true)]) (rest := []) rfl hl.1 rfl (Nat.le_of_ble_eq_true rfl) dX4_padCorner_29 ⟨(Nat.le_of_ble_eq_true rfl), (Nat.le_of_ble_eq_true rfl)⟩ (fun H locs hw hS => ?_)
    refine lv_if_eq (tgt := 61) hx hb dX4_padCorner_32 (by decide) (fun h2 => ?_) (fun h2 => ?_)
    · skip
      have h2 := bI_0.mp h2
      exact rv hx hb hlk hr (by unfold pcM; rw [if_neg (by simpa using h2)]; exact hw) hS  (Nat.le_of_ble_eq_true rfl) (Nat.le_of_ble_eq_true rfl) dX4_padCorner_61
    · skip
      have h2 := bI_n0.mp h2
      refine lv_aload_n hx hb dX4_padCorner_35 rfl (lv_at hl 0 rfl) ?_
      refine gf hx hb hown hts hw hT 9 0 (by decide) (ci := 4) rfl rfl (fun _ h => List.mem_cons_of_mem _ (List.mem_append_right _ h)) 1 (by decide) (List.mem_of_getElem? (i := 1) rfl) (v := .ref (g_ad G 10 0)) rfl dX4_padCorner_36 ?_
      refine lv_iload_n hx hb dX4_padCorner_39 rfl (lv_at hl 1 rfl) ?_
      refine lv_fload_n hx hb dX4_padCorner_40 rfl (lv_at hl 2 rfl) ?_
      refine afs (S' := (mFU (gsS S (g3F x y z) true) (va_up (mFS (gsS S (g3F x y z) true)) 0 (va_up (mFS (gsS S (g3F x y z) true) 0) 3 x)))) hx hb hw hT hS 10 0 (by decide) (f := mFS (gsS S (g3F x y z) true) 0) rfl 3 (by decide) (by decide) (mup_mF G (gsS S (g3F x y z) true) 0 (va_up (mFS (gsS S (g3F x y z) true) 0) 3 x)) dX4_padCorner_41 (fun H locs hw hS => ?_)
      refine lv_aload_n hx hb dX4_padCorner_42 rfl (lv_at hl 0 rfl) ?_
      refine gf hx hb hown hts hw hT 9 0 (by decide) (ci := 4) rfl rfl (fun _ h => List.mem_cons_of_mem _ (List.mem_append_right _ h)) 1 (by decide) (List.mem_of_getElem? (i := 1) rfl) (v := .ref (g_ad G 10 0)) rfl dX4_padCorner_43 ?_
      refine lv_iload_n hx hb dX4_padCorner_46 rfl (lv_at hl 1 rfl) ?_
      refine lv_iconst (v := nI 1) hx hb dX4_padCorner_47 (by decide) ?_
      refine lv_iadd hx hb dX4_padCorner_48 ?_
      refine top_i (y := nI 4) (by decide) ?_
      refine lv_fload_n hx hb dX4_padCorner_49 rfl (lv_at hl 3 rfl) ?_
      refine afs (S' := (mFU (gsS S (g3F x y z) true) (va_up (mFS (gsS S (g3F x y z) true)) 0 (va_up (va_up (mFS (gsS S (g3F x y z) true) 0) 3 x) 4 y)))) hx hb hw hT hS 10 0 (by decide) (f := va_up (mFS (gsS S (g3F x y z) true) 0) 3 x) rfl 4 (by decide) (by decide) (mup2_mF G (gsS S (g3F x y z) true) 0 _ (va_up (va_up (mFS (gsS S (g3F x y z) true) 0) 3 x) 4 y)) dX4_padCorner_50 (fun H locs hw hS => ?_)
      refine lv_aload_n hx hb dX4_padCorner_51 rfl (lv_at hl 0 rfl) ?_
      refine gf hx hb hown hts hw hT 9 0 (by decide) (ci := 4) rfl rfl (fun _ h => List.mem_cons_of_mem _ (List.mem_append_right _ h)) 1 (by decide) (List.mem_of_getElem? (i := 1) rfl) (v := .ref (g_ad G 10 0)) rfl dX4_padCorner_52 ?_
      refine lv_iload_n hx hb dX4_padCorner_55 rfl (lv_at hl 1 rfl) ?_
      refine lv_iconst (v := nI 2) hx hb dX4_padCorner_56 (by decide) ?_
      refine lv_iadd hx hb dX4_padCorner_57 ?_
      refine top_i (y := nI 5) (by decide) ?_
      refine lv_fload hx hb dX4_padCorner_58 (lv_at hl 4 rfl) ?_
      refine afs (S' := (mFU (gsS S (g3F x y z) true) (va_up (mFS (gsS S (g3F x y z) true)) 0 (va_up (va_up (va_up (mFS (gsS S (g3F x y z) true) 0) 3 x) 4 y) 5 z)))) hx hb hw hT hS 10 0 (by decide) (f := va_up (va_up (mFS (gsS S (g3F x y z) true) 0) 3 x) 4 y) rfl 5 (by decide) (by decide) (mup2_mF G (gsS S (g3F x y z) true) 0 _ (va_up (va_up (va_up (mFS (gsS S (g3F x y z) true) 0) 3 x) 4 y) 5 z)) dX4_padCorner_60 (fun H locs hw hS => ?_)
      exact rv hx hb hlk hr (by unfold pcM; rw [if_pos (by simpa using h2)]; exact hw) hS  (Nat.le_of_ble_eq_true rfl) (Nat.le_of_ble_eq_true rfl) dX4_padCorner_61
  refine lv_fload_n hx hb dX4_padCorner_1 rfl (lv_at hl 2 rfl) ?_
  refine cSi ⟨hx, hb, hml, hown, hts⟩ (m_good l G S x) (va_cwS 1 hts gX4_padCorner_X4_good rfl rfl rfl (by decide +kernel) ⟨(Nat.le_of_ble_eq_true rfl), (Nat.le_of_ble_eq_true rfl)⟩) hw hT hS (As := [.float x]) (rest := [.ref (g_ad G 9 0)]) rfl hl.1 rfl (Nat.le_of_ble_eq_true rfl) dX4_padCorner_2 ⟨(Nat.le_of_ble_eq_true rfl), (Nat.le_of_ble_eq_true rfl)⟩ (fun H locs hw hS => ?_)
  refine lv_if_eq (tgt := 27) hx hb dX4_padCorner_5 (by decide) (fun h3 => ?_) (fun h3 => ?_)
  · skip
    have h3 := bI_0.mp h3
    refine lv_iconst (v := nI 0) hx hb dX4_padCorner_27 (by decide) ?_
    refine top_i (y := bI false) (by decide) ?_
    exact K1 false _ _ (by first | (simp only [g3F, h3, Bool.true_and, Bool.false_and, Bool.and_true, Bool.and_false]; done) | simp [g3F, h3]) hw hS
  · skip
    have h3 := bI_n0.mp h3
    refine lv_fload_n hx hb dX4_padCorner_8 rfl (lv_at hl 3 rfl) ?_
    refine cSi ⟨hx, hb, hml, hown, hts⟩ (m_good l G S y) (va_cwS 1 hts gX4_padCorner_X4_good rfl rfl rfl (by decide +kernel) ⟨(Nat.le_of_ble_eq_true rfl), (Nat.le_of_ble_eq_true rfl)⟩) hw hT hS (As := [.float y]) (rest := [.ref (g_ad G 9 0)]) rfl hl.1 rfl (Nat.le_of_ble_eq_true rfl) dX4_padCorner_9 ⟨(Nat.le_of_ble_eq_true rfl), (Nat.le_of_ble_eq_true rfl)⟩ (fun H locs hw hS => ?_)
    refine lv_if_eq (tgt := 27) hx hb dX4_padCorner_12 (by decide) (fun h4 => ?_) (fun h4 => ?_)
    · skip
      have h4 := bI_0.mp h4
      refine lv_iconst (v := nI 0) hx hb dX4_padCorner_27 (by decide) ?_
      refine top_i (y := bI false) (by decide) ?_
      exact K1 false _ _ (by first | (simp only [g3F, h3, h4, Bool.true_and, Bool.false_and, Bool.and_true, Bool.and_false]; done) | simp [g3F, h3, h4]) hw hS
    · skip
      have h4 := bI_n0.mp h4
      refine lv_fload hx hb dX4_padCorner_15 (lv_at hl 4 rfl) ?_
      refine cSi ⟨hx, hb, hml, hown, hts⟩ (m_good l G S z) (va_cwS 1 hts gX4_padCorner_X4_good rfl rfl rfl (by decide +kernel) ⟨(Nat.le_of_ble_eq_true rfl), (Nat.le_of_ble_eq_true rfl)⟩) hw hT hS (As := [.float z]) (rest := [.ref (g_ad G 9 0)]) rfl hl.1 rfl (Nat.le_of_ble_eq_true rfl) dX4_padCorner_17 ⟨(Nat.le_of_ble_eq_true rfl), (Nat.le_of_ble_eq_true rfl)⟩ (fun H locs hw hS => ?_)
      refine lv_if_eq (tgt := 27) hx hb dX4_padCorner_20 (by decide) (fun h5 => ?_) (fun h5 => ?_)
      · skip
        have h5 := bI_0.mp h5
        refine lv_iconst (v := nI 0) hx hb dX4_padCorner_27 (by decide) ?_
        refine top_i (y := bI false) (by decide) ?_
        exact K1 false _ _ (by first | (simp only [g3F, h3, h4, h5, Bool.true_and, Bool.false_and, Bool.and_true, Bool.and_false]; done) | simp [g3F, h3, h4, h5]) hw hS
      · skip
        have h5 := bI_n0.mp h5
        refine lv_iconst (v := nI 1) hx hb dX4_padCorner_23 (by decide) ?_
        refine lv_goto (tgt := 28) hx hb dX4_padCorner_24 (by decide) ?_
        refine top_i (y := bI true) (by decide) ?_
        exact K1 true _ _ (by first | (simp only [g3F, h3, h4, h5, Bool.true_and, Bool.false_and, Bool.and_true, Bool.and_false]; done) | simp [g3F, h3, h4, h5]) hw hS
set_option maxRecDepth 100000 in
set_option maxHeartbeats 1000000 in
theorem m_low (l : Launch) (G : Gm) (S : St) (x y z : UInt32) : Pv l yX4_low wsX4_low ({ frames := 2, cells := 0, slots := 0, locals := 46 } : Room) [.ref (g_ad G 9 0), .float x, .float y, .float z] G S (pcM S 0 x y z) := by
  refine ent (cc := cX4_low) (maxL := 4) (ret := none) (by decide) rfl (Nat.le_of_ble_eq_true rfl) ?_
  intro p e s m below meth c ls C hw hT hS hl
  obtain ⟨hx, hb, hr, hml, hown, hts, hlk⟩ := C
  have hl : lv_has ls 4 [(0, .ref (g_ad G 9 0)), (1, .float x), (2, .float y), (3, .float z)] := hl
  refine lv_aload_n hx hb dX4_low_0 rfl (lv_at hl 0 rfl) ?_
  refine lv_iconst (v := nI 0) hx hb dX4_low_1 (by decide) ?_
  refine lv_fload_n hx hb dX4_low_2 rfl (lv_at hl 1 rfl) ?_
  refine lv_fload_n hx hb dX4_low_3 rfl (lv_at hl 2 rfl) ?_
  refine lv_fload_n hx hb dX4_low_4 rfl (lv_at hl 3 rfl) ?_
  refine cVv ⟨hx, hb, hml, hown, hts⟩ (m_padCorner0 l G S x y z) (cwV 4 hts gX4_low_X4_padCorner rfl rfl rfl (by decide +kernel) ⟨(Nat.le_of_ble_eq_true rfl), (Nat.le_of_ble_eq_true rfl)⟩) hw hT hS (rcv hw hT 9 0 (by decide) rfl rfl) (As := [.int (nI 0), .float x, .float y, .float z]) (rest := []) rfl hl.1 rfl (Nat.le_of_ble_eq_true rfl) dX4_low_5 ⟨(Nat.le_of_ble_eq_true rfl), (Nat.le_of_ble_eq_true rfl)⟩ (fun H locs hw hS => ?_)
  exact rv hx hb hlk hr hw hS  (Nat.le_of_ble_eq_true rfl) (Nat.le_of_ble_eq_true rfl) dX4_low_8
set_option maxRecDepth 100000 in
set_option maxHeartbeats 1000000 in
theorem m_high (l : Launch) (G : Gm) (S : St) (x y z : UInt32) : Pv l yX4_high wsX4_high ({ frames := 2, cells := 0, slots := 0, locals := 46 } : Room) [.ref (g_ad G 9 0), .float x, .float y, .float z] G S (pcM S 3 x y z) := by
  refine ent (cc := cX4_high) (maxL := 4) (ret := none) (by decide) rfl (Nat.le_of_ble_eq_true rfl) ?_
  intro p e s m below meth c ls C hw hT hS hl
  obtain ⟨hx, hb, hr, hml, hown, hts, hlk⟩ := C
  have hl : lv_has ls 4 [(0, .ref (g_ad G 9 0)), (1, .float x), (2, .float y), (3, .float z)] := hl
  refine lv_aload_n hx hb dX4_high_0 rfl (lv_at hl 0 rfl) ?_
  refine lv_iconst (v := nI 3) hx hb dX4_high_1 (by decide) ?_
  refine lv_fload_n hx hb dX4_high_2 rfl (lv_at hl 1 rfl) ?_
  refine lv_fload_n hx hb dX4_high_3 rfl (lv_at hl 2 rfl) ?_
  refine lv_fload_n hx hb dX4_high_4 rfl (lv_at hl 3 rfl) ?_
  refine cVv ⟨hx, hb, hml, hown, hts⟩ (m_padCorner3 l G S x y z) (cwV 4 hts gX4_high_X4_padCorner rfl rfl rfl (by decide +kernel) ⟨(Nat.le_of_ble_eq_true rfl), (Nat.le_of_ble_eq_true rfl)⟩) hw hT hS (rcv hw hT 9 0 (by decide) rfl rfl) (As := [.int (nI 3), .float x, .float y, .float z]) (rest := []) rfl hl.1 rfl (Nat.le_of_ble_eq_true rfl) dX4_high_5 ⟨(Nat.le_of_ble_eq_true rfl), (Nat.le_of_ble_eq_true rfl)⟩ (fun H locs hw hS => ?_)
  exact rv hx hb hlk hr hw hS  (Nat.le_of_ble_eq_true rfl) (Nat.le_of_ble_eq_true rfl) dX4_high_8
set_option maxRecDepth 100000 in
set_option maxHeartbeats 1000000 in
theorem m_known (l : Launch) (G : Gm) (S : St) (k : Int32) : Pi l yX4_known wsX4_known ({ frames := 0, cells := 0, slots := 0, locals := 0 } : Room) [.ref (g_ad G 9 0), .int k] G S (bI (kwF S k)) S := by
  refine ent (cc := cX4_known) (maxL := 2) (ret := (some .boolean)) (by decide) rfl (Nat.le_of_ble_eq_true rfl) ?_
  intro p e s m below meth c ls C hw hT hS hl
  obtain ⟨hx, hb, hr, hml, hown, hts, hlk⟩ := C
  have hl : lv_has ls 2 [(0, .ref (g_ad G 9 0)), (1, .int k)] := hl
  refine lv_iload_n hx hb dX4_known_0 rfl (lv_at hl 1 rfl) ?_
  refine lv_if_lt (tgt := 24) hx hb dX4_known_1 (by decide) (fun h1 => ?_) (fun h1 => ?_)
  · skip
    refine lv_iconst (v := nI 0) hx hb dX4_known_24 (by decide) ?_
    refine top_i (y := bI false) (by decide) ?_
    exact ri hx hb hlk hr hw hS (congrArg bI (by simp [kwF, bnF, h1])) (bI_nar _) (Nat.le_of_ble_eq_true rfl) (Nat.le_of_ble_eq_true rfl) dX4_known_25
  · skip
    refine lv_iload_n hx hb dX4_known_4 rfl (lv_at hl 1 rfl) ?_
    refine lv_sipush (v := nI 512) hx hb dX4_known_5 (by decide) ?_
    refine lv_icmp_ge (tgt := 24) hx hb dX4_known_8 (by decide) (fun h2 => ?_) (fun h2 => ?_)
    · skip
      have h2 : ¬ k < (nI 512) := Int32.not_lt.mpr h2
      refine lv_iconst (v := nI 0) hx hb dX4_known_24 (by decide) ?_
      refine top_i (y := bI false) (by decide) ?_
      exact ri hx hb hlk hr hw hS (congrArg bI (by simp [kwF, bnF, h1, h2])) (bI_nar _) (Nat.le_of_ble_eq_true rfl) (Nat.le_of_ble_eq_true rfl) dX4_known_25
    · skip
      have h2 : k < (nI 512) := Int32.not_le.mp h2
      obtain ⟨kn, hkn, rfl⟩ := nat_of (by decide) h1 h2
      refine lv_aload_n hx hb dX4_known_11 rfl (lv_at hl 0 rfl) ?_
      refine gf hx hb hown hts hw hT 9 0 (by decide) (ci := 4) rfl rfl (fun _ h => List.mem_cons_of_mem _ (List.mem_append_right _ h)) 2 (by decide) (List.mem_of_getElem? (i := 1) rfl) (v := .ref (g_ad G 12 0)) rfl dX4_known_12 ?_
      refine lv_iload_n hx hb dX4_known_15 rfl (lv_at hl 1 rfl) ?_
      refine azl hx hb hw hT 12 0 (by decide) (f := (fun q => bI (mZS S 0 q))) rfl kn (show kn < 512 by omega) (by decide) dX4_known_16 ?_
      refine lv_if_eq (tgt := 24) hx hb dX4_known_17 (by decide) (fun h3 => ?_) (fun h3 => ?_)
      · skip
        have h3 := bI_0.mp h3
        refine lv_iconst (v := nI 0) hx hb dX4_known_24 (by decide) ?_
        refine top_i (y := bI false) (by decide) ?_
        exact ri hx hb hlk hr hw hS (congrArg bI (by unfold kwF; rw [bn_nI hkn, kN_nI (show kn < 65536 by omega)]; simp [h3])) (bI_nar _) (Nat.le_of_ble_eq_true rfl) (Nat.le_of_ble_eq_true rfl) dX4_known_25
      · skip
        have h3 := bI_n0.mp h3
        refine lv_iconst (v := nI 1) hx hb dX4_known_20 (by decide) ?_
        refine lv_goto (tgt := 25) hx hb dX4_known_21 (by decide) ?_
        refine top_i (y := bI true) (by decide) ?_
        exact ri hx hb hlk hr hw hS (congrArg bI (by unfold kwF; rw [bn_nI hkn, kN_nI (show kn < 65536 by omega)]; simp [h3])) (bI_nar _) (Nat.le_of_ble_eq_true rfl) (Nat.le_of_ble_eq_true rfl) dX4_known_25
set_option maxRecDepth 100000 in
set_option maxHeartbeats 1000000 in
theorem m_widen0 (l : Launch) (G : Gm) (S : St) (b : Nat) (hb5 : b < 512) (d : UInt32) (hn : waN (mFS S 4) 0 d) : Pv l yX4_widen wsX4_widen ({ frames := 0, cells := 0, slots := 0, locals := 0 } : Room) [.ref (g_ad G 9 0), .int (nI b), .int (nI 0), .float d] G S (wnS S b 0 d) := by
  refine ent (cc := cX4_widen) (maxL := 6) (ret := none) (by decide) rfl (Nat.le_of_ble_eq_true rfl) ?_
  intro p e s m below meth c ls C hw hT hS hl
  obtain ⟨hx, hb, hr, hml, hown, hts, hlk⟩ := C
  have hl : lv_has ls 6 [(0, .ref (g_ad G 9 0)), (1, .int (nI b)), (2, .int (nI 0)), (3, .float d)] := hl
  refine lv_aload_n hx hb dX4_widen_0 rfl (lv_at hl 0 rfl) ?_
  refine gf hx hb hown hts hw hT 9 0 (by decide) (ci := 4) rfl rfl (fun _ h => List.mem_cons_of_mem _ (List.mem_append_right _ h)) 16 (by decide) (List.mem_of_getElem? (i := 1) rfl) (v := .ref (g_ad G 10 4)) rfl dX4_widen_1 ?_
  refine lv_iload_n hx hb dX4_widen_4 rfl (lv_at hl 2 rfl) ?_
  refine afl hx hb hw hT 10 4 (by decide) (f := mFS S 4) rfl 0 (by decide) (by decide) dX4_widen_5 ?_
  refine lv_ldcf (v := 1048576000) hx hb hown (hts _ (List.mem_of_getElem? (i := 2) rfl)) dX4_widen_6 ?_
  refine lv_fsub hx hb dX4_widen_8 hn.1 ?_
  refine lv_fstore (lv' := [(4, .float (FP.fsub (mFS S 4 0) 1048576000)), (0, .ref (g_ad G 9 0)), (1, .int (nI b)), (2, .int (nI 0)), (3, .float d)]) hx hb dX4_widen_9 hl (by decide) rfl (fun ls hl => ?_)
  refine lv_aload_n hx hb dX4_widen_11 rfl (lv_at hl 1 rfl) ?_
  refine gf hx hb hown hts hw hT 9 0 (by decide) (ci := 4) rfl rfl (fun _ h => List.mem_cons_of_mem _ (List.mem_append_right _ h)) 16 (by decide) (List.mem_of_getElem? (i := 1) rfl) (v := .ref (g_ad G 10 4)) rfl dX4_widen_12 ?_
  refine lv_iload_n hx hb dX4_widen_15 rfl (lv_at hl 3 rfl) ?_
  refine lv_iconst (v := nI 3) hx hb dX4_widen_16 (by decide) ?_
  refine lv_iadd hx hb dX4_widen_17 ?_
  refine top_i (y := nI 3) (by decide) ?_
  refine afl hx hb hw hT 10 4 (by decide) (f := mFS S 4) rfl 3 (by decide) (by decide) dX4_widen_18 ?_
  refine lv_ldcf (v := 1048576000) hx hb hown (hts _ (List.mem_of_getElem? (i := 2) rfl)) dX4_widen_19 ?_
  refine lv_fadd hx hb dX4_widen_21 hn.2.1 ?_
  refine lv_fstore (lv' := [(5, .float (FP.fadd (mFS S 4 3) 1048576000)), (4, .float (FP.fsub (mFS S 4 0) 1048576000)), (0, .ref (g_ad G 9 0)), (1, .int (nI b)), (2, .int (nI 0)), (3, .float d)]) hx hb dX4_widen_22 hl (by decide) rfl (fun ls hl => ?_)
  refine lv_aload_n hx hb dX4_widen_24 rfl (lv_at hl 2 rfl) ?_
  refine gf hx hb hown hts hw hT 9 0 (by decide) (ci := 4) rfl rfl (fun _ h => List.mem_cons_of_mem _ (List.mem_append_right _ h)) 7 (by decide) (List.mem_of_getElem? (i := 3) rfl) (v := .ref (g_ad G 10 2)) rfl dX4_widen_25 ?_
  refine lv_bipush (v := nI 6) hx hb dX4_widen_28 (by decide) ?_
  refine lv_iload_n hx hb dX4_widen_30 rfl (lv_at hl 3 rfl) ?_
  refine lv_imul hx hb dX4_widen_31 ?_
  refine top_i (y := nI (6 * b)) (pk_mul 6 b) ?_
  refine lv_iload_n hx hb dX4_widen_32 rfl (lv_at hl 4 rfl) ?_
  refine lv_iadd hx hb dX4_widen_33 ?_
  refine top_i (y := nI (6 * b + 0)) (nI_add (6 * b) 0) ?_
  refine lv_fload_n hx hb dX4_widen_34 rfl (lv_at hl 5 rfl) ?_
  refine lv_fconst0 hx hb dX4_widen_35 ?_
  refine fc_gge (x := d) (y := FP.fconst0) (tgt := 49) hx hb dX4_widen_36 dX4_widen_37 (by decide) (fun h1 => ?_) (fun h1 => ?_)
  · skip
    refine lv_fload hx hb dX4_widen_49 (lv_at hl 1 rfl) ?_
    refine afs (S' := (mFU S (va_up (mFS S) 2 (va_up (mFS S 2) (6 * b + 0) (FP.fsub (mFS S 4 0) 1048576000))))) hx hb hw hT hS 10 2 (by decide) (f := mFS S 2) rfl (6 * b + 0) (show 6 * b + 0 < 3072 by omega) (by decide) (mup_mF G S 2 (va_up (mFS S 2) (6 * b + 0) (FP.fsub (mFS S 4 0) 1048576000))) dX4_widen_51 (fun H locs hw hS => ?_)
    refine lv_aload_n hx hb dX4_widen_52 rfl (lv_at hl 2 rfl) ?_
    refine gf hx hb hown hts hw hT 9 0 (by decide) (ci := 4) rfl rfl (fun _ h => List.mem_cons_of_mem _ (List.mem_append_right _ h)) 7 (by decide) (List.mem_of_getElem? (i := 3) rfl) (v := .ref (g_ad G 10 2)) rfl dX4_widen_53 ?_
    refine lv_bipush (v := nI 6) hx hb dX4_widen_56 (by decide) ?_
    refine lv_iload_n hx hb dX4_widen_58 rfl (lv_at hl 3 rfl) ?_
    refine lv_imul hx hb dX4_widen_59 ?_
    refine top_i (y := nI (6 * b)) (pk_mul 6 b) ?_
    refine lv_iconst (v := nI 3) hx hb dX4_widen_60 (by decide) ?_
    refine lv_iadd hx hb dX4_widen_61 ?_
    refine top_i (y := nI (6 * b + 3)) (nI_add (6 * b) 3) ?_
    refine lv_iload_n hx hb dX4_widen_62 rfl (lv_at hl 4 rfl) ?_
    refine lv_iadd hx hb dX4_widen_63 ?_
    refine top_i (y := nI (6 * b + 3 + 0)) (nI_add (6 * b + 3) 0) ?_
    refine lv_fload_n hx hb dX4_widen_64 rfl (lv_at hl 5 rfl) ?_
    refine lv_fconst0 hx hb dX4_widen_65 ?_
    refine fc_gge (x := d) (y := FP.fconst0) (tgt := 75) hx hb dX4_widen_66 dX4_widen_67 (by decide) (fun _ => ?_) (fun q => Bool.noConfusion (h1.symm.trans q))
    refine lv_fload hx hb dX4_widen_75 (lv_at hl 0 rfl) ?_
    refine lv_fload_n hx hb dX4_widen_77 rfl (lv_at hl 5 rfl) ?_
    refine lv_fconst2 hx hb dX4_widen_78 ?_
    refine lv_fmul hx hb dX4_widen_79 hn.2.2.1 ?_
    refine lv_fadd hx hb dX4_widen_80 hn.2.2.2.2 ?_
    refine afs (S' := (mFU S (va_up (mFS S) 2 (va_up (va_up (mFS S 2) (6 * b + 0) (FP.fsub (mFS S 4 0) 1048576000)) (6 * b + 3 + 0) (FP.fadd (FP.fadd (mFS S 4 3) 1048576000) (FP.fmul d FP.fconst2)))))) hx hb hw hT hS 10 2 (by decide) (f := va_up (mFS S 2) (6 * b + 0) (FP.fsub (mFS S 4 0) 1048576000)) rfl (6 * b + 3 + 0) (show 6 * b + 3 + 0 < 3072 by omega) (by decide) (mup2_mF G S 2 _ (va_up (va_up (mFS S 2) (6 * b + 0) (FP.fsub (mFS S 4 0) 1048576000)) (6 * b + 3 + 0) (FP.fadd (FP.fadd (mFS S 4 3) 1048576000) (FP.fmul d FP.fconst2)))) dX4_widen_81 (fun H locs hw hS => ?_)
    exact rv hx hb hlk hr (by unfold wnS wnF; rw [if_neg (by rw [h1]; decide)]; exact hw) hS  (Nat.le_of_ble_eq_true rfl) (Nat.le_of_ble_eq_true rfl) dX4_widen_82
  · skip
    refine lv_fload hx hb dX4_widen_40 (lv_at hl 1 rfl) ?_
    refine lv_fload_n hx hb dX4_widen_42 rfl (lv_at hl 5 rfl) ?_
    refine lv_fconst2 hx hb dX4_widen_43 ?_
    refine lv_fmul hx hb dX4_widen_44 hn.2.2.1 ?_
    refine lv_fadd hx hb dX4_widen_45 hn.2.2.2.1 ?_
    refine lv_goto (tgt := 51) hx hb dX4_widen_46 (by decide) ?_
    refine afs (S' := (mFU S (va_up (mFS S) 2 (va_up (mFS S 2) (6 * b + 0) (FP.fadd (FP.fsub (mFS S 4 0) 1048576000) (FP.fmul d FP.fconst2)))))) hx hb hw hT hS 10 2 (by decide) (f := mFS S 2) rfl (6 * b + 0) (show 6 * b + 0 < 3072 by omega) (by decide) (mup_mF G S 2 (va_up (mFS S 2) (6 * b + 0) (FP.fadd (FP.fsub (mFS S 4 0) 1048576000) (FP.fmul d FP.fconst2)))) dX4_widen_51 (fun H locs hw hS => ?_)
    refine lv_aload_n hx hb dX4_widen_52 rfl (lv_at hl 2 rfl) ?_
    refine gf hx hb hown hts hw hT 9 0 (by decide) (ci := 4) rfl rfl (fun _ h => List.mem_cons_of_mem _ (List.mem_append_right _ h)) 7 (by decide) (List.mem_of_getElem? (i := 3) rfl) (v := .ref (g_ad G 10 2)) rfl dX4_widen_53 ?_
    refine lv_bipush (v := nI 6) hx hb dX4_widen_56 (by decide) ?_
    refine lv_iload_n hx hb dX4_widen_58 rfl (lv_at hl 3 rfl) ?_
    refine lv_imul hx hb dX4_widen_59 ?_
    refine top_i (y := nI (6 * b)) (pk_mul 6 b) ?_
    refine lv_iconst (v := nI 3) hx hb dX4_widen_60 (by decide) ?_
    refine lv_iadd hx hb dX4_widen_61 ?_
    refine top_i (y := nI (6 * b + 3)) (nI_add (6 * b) 3) ?_
    refine lv_iload_n hx hb dX4_widen_62 rfl (lv_at hl 4 rfl) ?_
    refine lv_iadd hx hb dX4_widen_63 ?_
    refine top_i (y := nI (6 * b + 3 + 0)) (nI_add (6 * b + 3) 0) ?_
    refine lv_fload_n hx hb dX4_widen_64 rfl (lv_at hl 5 rfl) ?_
    refine lv_fconst0 hx hb dX4_widen_65 ?_
    refine fc_gge (x := d) (y := FP.fconst0) (tgt := 75) hx hb dX4_widen_66 dX4_widen_67 (by decide) (fun q => Bool.noConfusion (h1.symm.trans q)) (fun _ => ?_)
    refine lv_fload hx hb dX4_widen_70 (lv_at hl 0 rfl) ?_
    refine lv_goto (tgt := 81) hx hb dX4_widen_72 (by decide) ?_
    refine afs (S' := (mFU S (va_up (mFS S) 2 (va_up (va_up (mFS S 2) (6 * b + 0) (FP.fadd (FP.fsub (mFS S 4 0) 1048576000) (FP.fmul d FP.fconst2))) (6 * b + 3 + 0) (FP.fadd (mFS S 4 3) 1048576000))))) hx hb hw hT hS 10 2 (by decide) (f := va_up (mFS S 2) (6 * b + 0) (FP.fadd (FP.fsub (mFS S 4 0) 1048576000) (FP.fmul d FP.fconst2))) rfl (6 * b + 3 + 0) (show 6 * b + 3 + 0 < 3072 by omega) (by decide) (mup2_mF G S 2 _ (va_up (va_up (mFS S 2) (6 * b + 0) (FP.fadd (FP.fsub (mFS S 4 0) 1048576000) (FP.fmul d FP.fconst2))) (6 * b + 3 + 0) (FP.fadd (mFS S 4 3) 1048576000))) dX4_widen_81 (fun H locs hw hS => ?_)
    exact rv hx hb hlk hr (by unfold wnS wnF; rw [if_pos h1]; exact hw) hS  (Nat.le_of_ble_eq_true rfl) (Nat.le_of_ble_eq_true rfl) dX4_widen_82
set_option maxRecDepth 100000 in
set_option maxHeartbeats 1000000 in
theorem m_widen1 (l : Launch) (G : Gm) (S : St) (b : Nat) (hb5 : b < 512) (d : UInt32) (hn : waN (mFS S 4) 1 d) : Pv l yX4_widen wsX4_widen ({ frames := 0, cells := 0, slots := 0, locals := 0 } : Room) [.ref (g_ad G 9 0), .int (nI b), .int (nI 1), .float d] G S (wnS S b 1 d) := by
  refine ent (cc := cX4_widen) (maxL := 6) (ret := none) (by decide) rfl (Nat.le_of_ble_eq_true rfl) ?_
  intro p e s m below meth c ls C hw hT hS hl
  obtain ⟨hx, hb, hr, hml, hown, hts, hlk⟩ := C
  have hl : lv_has ls 6 [(0, .ref (g_ad G 9 0)), (1, .int (nI b)), (2, .int (nI 1)), (3, .float d)] := hl
  refine lv_aload_n hx hb dX4_widen_0 rfl (lv_at hl 0 rfl) ?_
  refine gf hx hb hown hts hw hT 9 0 (by decide) (ci := 4) rfl rfl (fun _ h => List.mem_cons_of_mem _ (List.mem_append_right _ h)) 16 (by decide) (List.mem_of_getElem? (i := 1) rfl) (v := .ref (g_ad G 10 4)) rfl dX4_widen_1 ?_
  refine lv_iload_n hx hb dX4_widen_4 rfl (lv_at hl 2 rfl) ?_
  refine afl hx hb hw hT 10 4 (by decide) (f := mFS S 4) rfl 1 (by decide) (by decide) dX4_widen_5 ?_
  refine lv_ldcf (v := 1048576000) hx hb hown (hts _ (List.mem_of_getElem? (i := 2) rfl)) dX4_widen_6 ?_
  refine lv_fsub hx hb dX4_widen_8 hn.1 ?_
  refine lv_fstore (lv' := [(4, .float (FP.fsub (mFS S 4 1) 1048576000)), (0, .ref (g_ad G 9 0)), (1, .int (nI b)), (2, .int (nI 1)), (3, .float d)]) hx hb dX4_widen_9 hl (by decide) rfl (fun ls hl => ?_)
  refine lv_aload_n hx hb dX4_widen_11 rfl (lv_at hl 1 rfl) ?_
  refine gf hx hb hown hts hw hT 9 0 (by decide) (ci := 4) rfl rfl (fun _ h => List.mem_cons_of_mem _ (List.mem_append_right _ h)) 16 (by decide) (List.mem_of_getElem? (i := 1) rfl) (v := .ref (g_ad G 10 4)) rfl dX4_widen_12 ?_
  refine lv_iload_n hx hb dX4_widen_15 rfl (lv_at hl 3 rfl) ?_
  refine lv_iconst (v := nI 3) hx hb dX4_widen_16 (by decide) ?_
  refine lv_iadd hx hb dX4_widen_17 ?_
  refine top_i (y := nI 4) (by decide) ?_
  refine afl hx hb hw hT 10 4 (by decide) (f := mFS S 4) rfl 4 (by decide) (by decide) dX4_widen_18 ?_
  refine lv_ldcf (v := 1048576000) hx hb hown (hts _ (List.mem_of_getElem? (i := 2) rfl)) dX4_widen_19 ?_
  refine lv_fadd hx hb dX4_widen_21 hn.2.1 ?_
  refine lv_fstore (lv' := [(5, .float (FP.fadd (mFS S 4 4) 1048576000)), (4, .float (FP.fsub (mFS S 4 1) 1048576000)), (0, .ref (g_ad G 9 0)), (1, .int (nI b)), (2, .int (nI 1)), (3, .float d)]) hx hb dX4_widen_22 hl (by decide) rfl (fun ls hl => ?_)
  refine lv_aload_n hx hb dX4_widen_24 rfl (lv_at hl 2 rfl) ?_
  refine gf hx hb hown hts hw hT 9 0 (by decide) (ci := 4) rfl rfl (fun _ h => List.mem_cons_of_mem _ (List.mem_append_right _ h)) 7 (by decide) (List.mem_of_getElem? (i := 3) rfl) (v := .ref (g_ad G 10 2)) rfl dX4_widen_25 ?_
  refine lv_bipush (v := nI 6) hx hb dX4_widen_28 (by decide) ?_
  refine lv_iload_n hx hb dX4_widen_30 rfl (lv_at hl 3 rfl) ?_
  refine lv_imul hx hb dX4_widen_31 ?_
  refine top_i (y := nI (6 * b)) (pk_mul 6 b) ?_
  refine lv_iload_n hx hb dX4_widen_32 rfl (lv_at hl 4 rfl) ?_
  refine lv_iadd hx hb dX4_widen_33 ?_
  refine top_i (y := nI (6 * b + 1)) (nI_add (6 * b) 1) ?_
  refine lv_fload_n hx hb dX4_widen_34 rfl (lv_at hl 5 rfl) ?_
  refine lv_fconst0 hx hb dX4_widen_35 ?_
  refine fc_gge (x := d) (y := FP.fconst0) (tgt := 49) hx hb dX4_widen_36 dX4_widen_37 (by decide) (fun h1 => ?_) (fun h1 => ?_)
  · skip
    refine lv_fload hx hb dX4_widen_49 (lv_at hl 1 rfl) ?_
    refine afs (S' := (mFU S (va_up (mFS S) 2 (va_up (mFS S 2) (6 * b + 1) (FP.fsub (mFS S 4 1) 1048576000))))) hx hb hw hT hS 10 2 (by decide) (f := mFS S 2) rfl (6 * b + 1) (show 6 * b + 1 < 3072 by omega) (by decide) (mup_mF G S 2 (va_up (mFS S 2) (6 * b + 1) (FP.fsub (mFS S 4 1) 1048576000))) dX4_widen_51 (fun H locs hw hS => ?_)
    refine lv_aload_n hx hb dX4_widen_52 rfl (lv_at hl 2 rfl) ?_
    refine gf hx hb hown hts hw hT 9 0 (by decide) (ci := 4) rfl rfl (fun _ h => List.mem_cons_of_mem _ (List.mem_append_right _ h)) 7 (by decide) (List.mem_of_getElem? (i := 3) rfl) (v := .ref (g_ad G 10 2)) rfl dX4_widen_53 ?_
    refine lv_bipush (v := nI 6) hx hb dX4_widen_56 (by decide) ?_
    refine lv_iload_n hx hb dX4_widen_58 rfl (lv_at hl 3 rfl) ?_
    refine lv_imul hx hb dX4_widen_59 ?_
    refine top_i (y := nI (6 * b)) (pk_mul 6 b) ?_
    refine lv_iconst (v := nI 3) hx hb dX4_widen_60 (by decide) ?_
    refine lv_iadd hx hb dX4_widen_61 ?_
    refine top_i (y := nI (6 * b + 3)) (nI_add (6 * b) 3) ?_
    refine lv_iload_n hx hb dX4_widen_62 rfl (lv_at hl 4 rfl) ?_
    refine lv_iadd hx hb dX4_widen_63 ?_
    refine top_i (y := nI (6 * b + 3 + 1)) (nI_add (6 * b + 3) 1) ?_
    refine lv_fload_n hx hb dX4_widen_64 rfl (lv_at hl 5 rfl) ?_
    refine lv_fconst0 hx hb dX4_widen_65 ?_
    refine fc_gge (x := d) (y := FP.fconst0) (tgt := 75) hx hb dX4_widen_66 dX4_widen_67 (by decide) (fun _ => ?_) (fun q => Bool.noConfusion (h1.symm.trans q))
    refine lv_fload hx hb dX4_widen_75 (lv_at hl 0 rfl) ?_
    refine lv_fload_n hx hb dX4_widen_77 rfl (lv_at hl 5 rfl) ?_
    refine lv_fconst2 hx hb dX4_widen_78 ?_
    refine lv_fmul hx hb dX4_widen_79 hn.2.2.1 ?_
    refine lv_fadd hx hb dX4_widen_80 hn.2.2.2.2 ?_
    refine afs (S' := (mFU S (va_up (mFS S) 2 (va_up (va_up (mFS S 2) (6 * b + 1) (FP.fsub (mFS S 4 1) 1048576000)) (6 * b + 3 + 1) (FP.fadd (FP.fadd (mFS S 4 4) 1048576000) (FP.fmul d FP.fconst2)))))) hx hb hw hT hS 10 2 (by decide) (f := va_up (mFS S 2) (6 * b + 1) (FP.fsub (mFS S 4 1) 1048576000)) rfl (6 * b + 3 + 1) (show 6 * b + 3 + 1 < 3072 by omega) (by decide) (mup2_mF G S 2 _ (va_up (va_up (mFS S 2) (6 * b + 1) (FP.fsub (mFS S 4 1) 1048576000)) (6 * b + 3 + 1) (FP.fadd (FP.fadd (mFS S 4 4) 1048576000) (FP.fmul d FP.fconst2)))) dX4_widen_81 (fun H locs hw hS => ?_)
    exact rv hx hb hlk hr (by unfold wnS wnF; rw [if_neg (by rw [h1]; decide)]; exact hw) hS  (Nat.le_of_ble_eq_true rfl) (Nat.le_of_ble_eq_true rfl) dX4_widen_82
  · skip
    refine lv_fload hx hb dX4_widen_40 (lv_at hl 1 rfl) ?_
    refine lv_fload_n hx hb dX4_widen_42 rfl (lv_at hl 5 rfl) ?_
    refine lv_fconst2 hx hb dX4_widen_43 ?_
    refine lv_fmul hx hb dX4_widen_44 hn.2.2.1 ?_
    refine lv_fadd hx hb dX4_widen_45 hn.2.2.2.1 ?_
    refine lv_goto (tgt := 51) hx hb dX4_widen_46 (by decide) ?_
    refine afs (S' := (mFU S (va_up (mFS S) 2 (va_up (mFS S 2) (6 * b + 1) (FP.fadd (FP.fsub (mFS S 4 1) 1048576000) (FP.fmul d FP.fconst2)))))) hx hb hw hT hS 10 2 (by decide) (f := mFS S 2) rfl (6 * b + 1) (show 6 * b + 1 < 3072 by omega) (by decide) (mup_mF G S 2 (va_up (mFS S 2) (6 * b + 1) (FP.fadd (FP.fsub (mFS S 4 1) 1048576000) (FP.fmul d FP.fconst2)))) dX4_widen_51 (fun H locs hw hS => ?_)
    refine lv_aload_n hx hb dX4_widen_52 rfl (lv_at hl 2 rfl) ?_
    refine gf hx hb hown hts hw hT 9 0 (by decide) (ci := 4) rfl rfl (fun _ h => List.mem_cons_of_mem _ (List.mem_append_right _ h)) 7 (by decide) (List.mem_of_getElem? (i := 3) rfl) (v := .ref (g_ad G 10 2)) rfl dX4_widen_53 ?_
    refine lv_bipush (v := nI 6) hx hb dX4_widen_56 (by decide) ?_
    refine lv_iload_n hx hb dX4_widen_58 rfl (lv_at hl 3 rfl) ?_
    refine lv_imul hx hb dX4_widen_59 ?_
    refine top_i (y := nI (6 * b)) (pk_mul 6 b) ?_
    refine lv_iconst (v := nI 3) hx hb dX4_widen_60 (by decide) ?_
    refine lv_iadd hx hb dX4_widen_61 ?_
    refine top_i (y := nI (6 * b + 3)) (nI_add (6 * b) 3) ?_
    refine lv_iload_n hx hb dX4_widen_62 rfl (lv_at hl 4 rfl) ?_
    refine lv_iadd hx hb dX4_widen_63 ?_
    refine top_i (y := nI (6 * b + 3 + 1)) (nI_add (6 * b + 3) 1) ?_
    refine lv_fload_n hx hb dX4_widen_64 rfl (lv_at hl 5 rfl) ?_
    refine lv_fconst0 hx hb dX4_widen_65 ?_
    refine fc_gge (x := d) (y := FP.fconst0) (tgt := 75) hx hb dX4_widen_66 dX4_widen_67 (by decide) (fun q => Bool.noConfusion (h1.symm.trans q)) (fun _ => ?_)
    refine lv_fload hx hb dX4_widen_70 (lv_at hl 0 rfl) ?_
    refine lv_goto (tgt := 81) hx hb dX4_widen_72 (by decide) ?_
    refine afs (S' := (mFU S (va_up (mFS S) 2 (va_up (va_up (mFS S 2) (6 * b + 1) (FP.fadd (FP.fsub (mFS S 4 1) 1048576000) (FP.fmul d FP.fconst2))) (6 * b + 3 + 1) (FP.fadd (mFS S 4 4) 1048576000))))) hx hb hw hT hS 10 2 (by decide) (f := va_up (mFS S 2) (6 * b + 1) (FP.fadd (FP.fsub (mFS S 4 1) 1048576000) (FP.fmul d FP.fconst2))) rfl (6 * b + 3 + 1) (show 6 * b + 3 + 1 < 3072 by omega) (by decide) (mup2_mF G S 2 _ (va_up (va_up (mFS S 2) (6 * b + 1) (FP.fadd (FP.fsub (mFS S 4 1) 1048576000) (FP.fmul d FP.fconst2))) (6 * b + 3 + 1) (FP.fadd (mFS S 4 4) 1048576000))) dX4_widen_81 (fun H locs hw hS => ?_)
    exact rv hx hb hlk hr (by unfold wnS wnF; rw [if_pos h1]; exact hw) hS  (Nat.le_of_ble_eq_true rfl) (Nat.le_of_ble_eq_true rfl) dX4_widen_82
set_option maxRecDepth 100000 in
set_option maxHeartbeats 1000000 in
theorem m_widen2 (l : Launch) (G : Gm) (S : St) (b : Nat) (hb5 : b < 512) (d : UInt32) (hn : waN (mFS S 4) 2 d) : Pv l yX4_widen wsX4_widen ({ frames := 0, cells := 0, slots := 0, locals := 0 } : Room) [.ref (g_ad G 9 0), .int (nI b), .int (nI 2), .float d] G S (wnS S b 2 d) := by
  refine ent (cc := cX4_widen) (maxL := 6) (ret := none) (by decide) rfl (Nat.le_of_ble_eq_true rfl) ?_
  intro p e s m below meth c ls C hw hT hS hl
  obtain ⟨hx, hb, hr, hml, hown, hts, hlk⟩ := C
  have hl : lv_has ls 6 [(0, .ref (g_ad G 9 0)), (1, .int (nI b)), (2, .int (nI 2)), (3, .float d)] := hl
  refine lv_aload_n hx hb dX4_widen_0 rfl (lv_at hl 0 rfl) ?_
  refine gf hx hb hown hts hw hT 9 0 (by decide) (ci := 4) rfl rfl (fun _ h => List.mem_cons_of_mem _ (List.mem_append_right _ h)) 16 (by decide) (List.mem_of_getElem? (i := 1) rfl) (v := .ref (g_ad G 10 4)) rfl dX4_widen_1 ?_
  refine lv_iload_n hx hb dX4_widen_4 rfl (lv_at hl 2 rfl) ?_
  refine afl hx hb hw hT 10 4 (by decide) (f := mFS S 4) rfl 2 (by decide) (by decide) dX4_widen_5 ?_
  refine lv_ldcf (v := 1048576000) hx hb hown (hts _ (List.mem_of_getElem? (i := 2) rfl)) dX4_widen_6 ?_
  refine lv_fsub hx hb dX4_widen_8 hn.1 ?_
  refine lv_fstore (lv' := [(4, .float (FP.fsub (mFS S 4 2) 1048576000)), (0, .ref (g_ad G 9 0)), (1, .int (nI b)), (2, .int (nI 2)), (3, .float d)]) hx hb dX4_widen_9 hl (by decide) rfl (fun ls hl => ?_)
  refine lv_aload_n hx hb dX4_widen_11 rfl (lv_at hl 1 rfl) ?_
  refine gf hx hb hown hts hw hT 9 0 (by decide) (ci := 4) rfl rfl (fun _ h => List.mem_cons_of_mem _ (List.mem_append_right _ h)) 16 (by decide) (List.mem_of_getElem? (i := 1) rfl) (v := .ref (g_ad G 10 4)) rfl dX4_widen_12 ?_
  refine lv_iload_n hx hb dX4_widen_15 rfl (lv_at hl 3 rfl) ?_
  refine lv_iconst (v := nI 3) hx hb dX4_widen_16 (by decide) ?_
  refine lv_iadd hx hb dX4_widen_17 ?_
  refine top_i (y := nI 5) (by decide) ?_
  refine afl hx hb hw hT 10 4 (by decide) (f := mFS S 4) rfl 5 (by decide) (by decide) dX4_widen_18 ?_
  refine lv_ldcf (v := 1048576000) hx hb hown (hts _ (List.mem_of_getElem? (i := 2) rfl)) dX4_widen_19 ?_
  refine lv_fadd hx hb dX4_widen_21 hn.2.1 ?_
  refine lv_fstore (lv' := [(5, .float (FP.fadd (mFS S 4 5) 1048576000)), (4, .float (FP.fsub (mFS S 4 2) 1048576000)), (0, .ref (g_ad G 9 0)), (1, .int (nI b)), (2, .int (nI 2)), (3, .float d)]) hx hb dX4_widen_22 hl (by decide) rfl (fun ls hl => ?_)
  refine lv_aload_n hx hb dX4_widen_24 rfl (lv_at hl 2 rfl) ?_
  refine gf hx hb hown hts hw hT 9 0 (by decide) (ci := 4) rfl rfl (fun _ h => List.mem_cons_of_mem _ (List.mem_append_right _ h)) 7 (by decide) (List.mem_of_getElem? (i := 3) rfl) (v := .ref (g_ad G 10 2)) rfl dX4_widen_25 ?_
  refine lv_bipush (v := nI 6) hx hb dX4_widen_28 (by decide) ?_
  refine lv_iload_n hx hb dX4_widen_30 rfl (lv_at hl 3 rfl) ?_
  refine lv_imul hx hb dX4_widen_31 ?_
  refine top_i (y := nI (6 * b)) (pk_mul 6 b) ?_
  refine lv_iload_n hx hb dX4_widen_32 rfl (lv_at hl 4 rfl) ?_
  refine lv_iadd hx hb dX4_widen_33 ?_
  refine top_i (y := nI (6 * b + 2)) (nI_add (6 * b) 2) ?_
  refine lv_fload_n hx hb dX4_widen_34 rfl (lv_at hl 5 rfl) ?_
  refine lv_fconst0 hx hb dX4_widen_35 ?_
  refine fc_gge (x := d) (y := FP.fconst0) (tgt := 49) hx hb dX4_widen_36 dX4_widen_37 (by decide) (fun h1 => ?_) (fun h1 => ?_)
  · skip
    refine lv_fload hx hb dX4_widen_49 (lv_at hl 1 rfl) ?_
    refine afs (S' := (mFU S (va_up (mFS S) 2 (va_up (mFS S 2) (6 * b + 2) (FP.fsub (mFS S 4 2) 1048576000))))) hx hb hw hT hS 10 2 (by decide) (f := mFS S 2) rfl (6 * b + 2) (show 6 * b + 2 < 3072 by omega) (by decide) (mup_mF G S 2 (va_up (mFS S 2) (6 * b + 2) (FP.fsub (mFS S 4 2) 1048576000))) dX4_widen_51 (fun H locs hw hS => ?_)
    refine lv_aload_n hx hb dX4_widen_52 rfl (lv_at hl 2 rfl) ?_
    refine gf hx hb hown hts hw hT 9 0 (by decide) (ci := 4) rfl rfl (fun _ h => List.mem_cons_of_mem _ (List.mem_append_right _ h)) 7 (by decide) (List.mem_of_getElem? (i := 3) rfl) (v := .ref (g_ad G 10 2)) rfl dX4_widen_53 ?_
    refine lv_bipush (v := nI 6) hx hb dX4_widen_56 (by decide) ?_
    refine lv_iload_n hx hb dX4_widen_58 rfl (lv_at hl 3 rfl) ?_
    refine lv_imul hx hb dX4_widen_59 ?_
    refine top_i (y := nI (6 * b)) (pk_mul 6 b) ?_
    refine lv_iconst (v := nI 3) hx hb dX4_widen_60 (by decide) ?_
    refine lv_iadd hx hb dX4_widen_61 ?_
    refine top_i (y := nI (6 * b + 3)) (nI_add (6 * b) 3) ?_
    refine lv_iload_n hx hb dX4_widen_62 rfl (lv_at hl 4 rfl) ?_
    refine lv_iadd hx hb dX4_widen_63 ?_
    refine top_i (y := nI (6 * b + 3 + 2)) (nI_add (6 * b + 3) 2) ?_
    refine lv_fload_n hx hb dX4_widen_64 rfl (lv_at hl 5 rfl) ?_
    refine lv_fconst0 hx hb dX4_widen_65 ?_
    refine fc_gge (x := d) (y := FP.fconst0) (tgt := 75) hx hb dX4_widen_66 dX4_widen_67 (by decide) (fun _ => ?_) (fun q => Bool.noConfusion (h1.symm.trans q))
    refine lv_fload hx hb dX4_widen_75 (lv_at hl 0 rfl) ?_
    refine lv_fload_n hx hb dX4_widen_77 rfl (lv_at hl 5 rfl) ?_
    refine lv_fconst2 hx hb dX4_widen_78 ?_
    refine lv_fmul hx hb dX4_widen_79 hn.2.2.1 ?_
    refine lv_fadd hx hb dX4_widen_80 hn.2.2.2.2 ?_
    refine afs (S' := (mFU S (va_up (mFS S) 2 (va_up (va_up (mFS S 2) (6 * b + 2) (FP.fsub (mFS S 4 2) 1048576000)) (6 * b + 3 + 2) (FP.fadd (FP.fadd (mFS S 4 5) 1048576000) (FP.fmul d FP.fconst2)))))) hx hb hw hT hS 10 2 (by decide) (f := va_up (mFS S 2) (6 * b + 2) (FP.fsub (mFS S 4 2) 1048576000)) rfl (6 * b + 3 + 2) (show 6 * b + 3 + 2 < 3072 by omega) (by decide) (mup2_mF G S 2 _ (va_up (va_up (mFS S 2) (6 * b + 2) (FP.fsub (mFS S 4 2) 1048576000)) (6 * b + 3 + 2) (FP.fadd (FP.fadd (mFS S 4 5) 1048576000) (FP.fmul d FP.fconst2)))) dX4_widen_81 (fun H locs hw hS => ?_)
    exact rv hx hb hlk hr (by unfold wnS wnF; rw [if_neg (by rw [h1]; decide)]; exact hw) hS  (Nat.le_of_ble_eq_true rfl) (Nat.le_of_ble_eq_true rfl) dX4_widen_82
  · skip
    refine lv_fload hx hb dX4_widen_40 (lv_at hl 1 rfl) ?_
    refine lv_fload_n hx hb dX4_widen_42 rfl (lv_at hl 5 rfl) ?_
    refine lv_fconst2 hx hb dX4_widen_43 ?_
    refine lv_fmul hx hb dX4_widen_44 hn.2.2.1 ?_
    refine lv_fadd hx hb dX4_widen_45 hn.2.2.2.1 ?_
    refine lv_goto (tgt := 51) hx hb dX4_widen_46 (by decide) ?_
    refine afs (S' := (mFU S (va_up (mFS S) 2 (va_up (mFS S 2) (6 * b + 2) (FP.fadd (FP.fsub (mFS S 4 2) 1048576000) (FP.fmul d FP.fconst2)))))) hx hb hw hT hS 10 2 (by decide) (f := mFS S 2) rfl (6 * b + 2) (show 6 * b + 2 < 3072 by omega) (by decide) (mup_mF G S 2 (va_up (mFS S 2) (6 * b + 2) (FP.fadd (FP.fsub (mFS S 4 2) 1048576000) (FP.fmul d FP.fconst2)))) dX4_widen_51 (fun H locs hw hS => ?_)
    refine lv_aload_n hx hb dX4_widen_52 rfl (lv_at hl 2 rfl) ?_
    refine gf hx hb hown hts hw hT 9 0 (by decide) (ci := 4) rfl rfl (fun _ h => List.mem_cons_of_mem _ (List.mem_append_right _ h)) 7 (by decide) (List.mem_of_getElem? (i := 3) rfl) (v := .ref (g_ad G 10 2)) rfl dX4_widen_53 ?_
    refine lv_bipush (v := nI 6) hx hb dX4_widen_56 (by decide) ?_
    refine lv_iload_n hx hb dX4_widen_58 rfl (lv_at hl 3 rfl) ?_
    refine lv_imul hx hb dX4_widen_59 ?_
    refine top_i (y := nI (6 * b)) (pk_mul 6 b) ?_
    refine lv_iconst (v := nI 3) hx hb dX4_widen_60 (by decide) ?_
    refine lv_iadd hx hb dX4_widen_61 ?_
    refine top_i (y := nI (6 * b + 3)) (nI_add (6 * b) 3) ?_
    refine lv_iload_n hx hb dX4_widen_62 rfl (lv_at hl 4 rfl) ?_
    refine lv_iadd hx hb dX4_widen_63 ?_
    refine top_i (y := nI (6 * b + 3 + 2)) (nI_add (6 * b + 3) 2) ?_
    refine lv_fload_n hx hb dX4_widen_64 rfl (lv_at hl 5 rfl) ?_
    refine lv_fconst0 hx hb dX4_widen_65 ?_
    refine fc_gge (x := d) (y := FP.fconst0) (tgt := 75) hx hb dX4_widen_66 dX4_widen_67 (by decide) (fun q => Bool.noConfusion (h1.symm.trans q)) (fun _ => ?_)
    refine lv_fload hx hb dX4_widen_70 (lv_at hl 0 rfl) ?_
    refine lv_goto (tgt := 81) hx hb dX4_widen_72 (by decide) ?_
    refine afs (S' := (mFU S (va_up (mFS S) 2 (va_up (va_up (mFS S 2) (6 * b + 2) (FP.fadd (FP.fsub (mFS S 4 2) 1048576000) (FP.fmul d FP.fconst2))) (6 * b + 3 + 2) (FP.fadd (mFS S 4 5) 1048576000))))) hx hb hw hT hS 10 2 (by decide) (f := va_up (mFS S 2) (6 * b + 2) (FP.fadd (FP.fsub (mFS S 4 2) 1048576000) (FP.fmul d FP.fconst2))) rfl (6 * b + 3 + 2) (show 6 * b + 3 + 2 < 3072 by omega) (by decide) (mup2_mF G S 2 _ (va_up (va_up (mFS S 2) (6 * b + 2) (FP.fadd (FP.fsub (mFS S 4 2) 1048576000) (FP.fmul d FP.fconst2))) (6 * b + 3 + 2) (FP.fadd (mFS S 4 5) 1048576000))) dX4_widen_81 (fun H locs hw hS => ?_)
    exact rv hx hb hlk hr (by unfold wnS wnF; rw [if_pos h1]; exact hw) hS  (Nat.le_of_ble_eq_true rfl) (Nat.le_of_ble_eq_true rfl) dX4_widen_82
set_option maxRecDepth 100000 in
set_option maxHeartbeats 1000000 in
theorem m_settle (l : Launch) (G : Gm) (S : St) (b : Nat) (hb5 : b < 512) (dx dy dz : UInt32) (hn : waN (mFS S 4) 0 dx ∧ waN (mFS S 4) 1 dy ∧ waN (mFS S 4) 2 dz) : Pv l yX4_settle wsX4_settle ({ frames := 1, cells := 0, slots := 0, locals := 25 } : Room) [.ref (g_ad G 9 0), .int (nI b), .float dx, .float dy, .float dz] G S (seS S b dx dy dz) := by
  refine ent (cc := cX4_settle) (maxL := 6) (ret := none) (by decide) rfl (Nat.le_of_ble_eq_true rfl) ?_
  intro p e s m below meth c ls C hw hT hS hl
  obtain ⟨hx, hb, hr, hml, hown, hts, hlk⟩ := C
  have hl : lv_has ls 6 [(0, .ref (g_ad G 9 0)), (1, .int (nI b)), (2, .float dx), (3, .float dy), (4, .float dz)] := hl
  refine lv_iconst (v := nI 0) hx hb dX4_settle_0 (by decide) ?_
  refine lv_istore (lv' := [(5, .int (nI 0)), (0, .ref (g_ad G 9 0)), (1, .int (nI b)), (2, .float dx), (3, .float dy), (4, .float dz)]) hx hb dX4_settle_1 hl (by decide) rfl (fun ls hl => ?_)
  refine lv_iload hx hb dX4_settle_3 (lv_at hl 0 rfl) ?_
  refine lv_bipush (v := nI 6) hx hb dX4_settle_5 (by decide) ?_
  refine lv_icmp_ge (tgt := 35) hx hb dX4_settle_7 (by decide) (fun q => absurd q (by decide)) (fun _ => ?_)
  refine lv_aload_n hx hb dX4_settle_10 rfl (lv_at hl 1 rfl) ?_
  refine gf hx hb hown hts hw hT 9 0 (by decide) (ci := 4) rfl rfl (fun _ h => List.mem_cons_of_mem _ (List.mem_append_right _ h)) 6 (by decide) (List.mem_of_getElem? (i := 1) rfl) (v := .ref (g_ad G 10 1)) rfl dX4_settle_11 ?_
  refine lv_bipush (v := nI 6) hx hb dX4_settle_14 (by decide) ?_
  refine lv_iload_n hx hb dX4_settle_16 rfl (lv_at hl 2 rfl) ?_
  refine lv_imul hx hb dX4_settle_17 ?_
  refine top_i (y := nI (6 * b)) (pk_mul 6 b) ?_
  refine lv_iload hx hb dX4_settle_18 (lv_at hl 0 rfl) ?_
  refine lv_iadd hx hb dX4_settle_20 ?_
  refine top_i (y := nI (6 * b + 0)) (nI_add (6 * b) 0) ?_
  refine lv_aload_n hx hb dX4_settle_21 rfl (lv_at hl 1 rfl) ?_
  refine gf hx hb hown hts hw hT 9 0 (by decide) (ci := 4) rfl rfl (fun _ h => List.mem_cons_of_mem _ (List.mem_append_right _ h)) 16 (by decide) (List.mem_of_getElem? (i := 2) rfl) (v := .ref (g_ad G 10 4)) rfl dX4_settle_22 ?_
  refine lv_iload hx hb dX4_settle_25 (lv_at hl 0 rfl) ?_
  refine afl hx hb hw hT 10 4 (by decide) (f := mFS S 4) rfl 0 (by decide) (by decide) dX4_settle_27 ?_
  refine afs (S' := (mFU S (va_up (mFS S) 1 (va_up (mFS S 1) (6 * b + 0) (mFS S 4 0))))) hx hb hw hT hS 10 1 (by decide) (f := mFS S 1) rfl (6 * b + 0) (show 6 * b + 0 < 3072 by omega) (by decide) (mup_mF G S 1 (va_up (mFS S 1) (6 * b + 0) (mFS S 4 0))) dX4_settle_28 (fun H locs hw hS => ?_)
  refine lv_iinc (v := nI 1) (lv' := [(5, .int (nI 1)), (0, .ref (g_ad G 9 0)), (1, .int (nI b)), (2, .float dx), (3, .float dy), (4, .float dz)]) hx hb dX4_settle_29 hl (k := 0) rfl (by decide) (by decide) rfl (fun ls hl => ?_)
  refine lv_goto (tgt := 3) hx hb dX4_settle_32 (by decide) ?_
  refine lv_iload hx hb dX4_settle_3 (lv_at hl 0 rfl) ?_
  refine lv_bipush (v := nI 6) hx hb dX4_settle_5 (by decide) ?_
  refine lv_icmp_ge (tgt := 35) hx hb dX4_settle_7 (by decide) (fun q => absurd q (by decide)) (fun _ => ?_)
  refine lv_aload_n hx hb dX4_settle_10 rfl (lv_at hl 1 rfl) ?_
  refine gf hx hb hown hts hw hT 9 0 (by decide) (ci := 4) rfl rfl (fun _ h => List.mem_cons_of_mem _ (List.mem_append_right _ h)) 6 (by decide) (List.mem_of_getElem? (i := 1) rfl) (v := .ref (g_ad G 10 1)) rfl dX4_settle_11 ?_
  refine lv_bipush (v := nI 6) hx hb dX4_settle_14 (by decide) ?_
  refine lv_iload_n hx hb dX4_settle_16 rfl (lv_at hl 2 rfl) ?_
  refine lv_imul hx hb dX4_settle_17 ?_
  refine top_i (y := nI (6 * b)) (pk_mul 6 b) ?_
  refine lv_iload hx hb dX4_settle_18 (lv_at hl 0 rfl) ?_
  refine lv_iadd hx hb dX4_settle_20 ?_
  refine top_i (y := nI (6 * b + 1)) (nI_add (6 * b) 1) ?_
  refine lv_aload_n hx hb dX4_settle_21 rfl (lv_at hl 1 rfl) ?_
  refine gf hx hb hown hts hw hT 9 0 (by decide) (ci := 4) rfl rfl (fun _ h => List.mem_cons_of_mem _ (List.mem_append_right _ h)) 16 (by decide) (List.mem_of_getElem? (i := 2) rfl) (v := .ref (g_ad G 10 4)) rfl dX4_settle_22 ?_
  refine lv_iload hx hb dX4_settle_25 (lv_at hl 0 rfl) ?_
  refine afl hx hb hw hT 10 4 (by decide) (f := mFS S 4) rfl 1 (by decide) (by decide) dX4_settle_27 ?_
  refine afs (S' := (mFU S (va_up (mFS S) 1 (va_up (va_up (mFS S 1) (6 * b + 0) (mFS S 4 0)) (6 * b + 1) (mFS S 4 1))))) hx hb hw hT hS 10 1 (by decide) (f := va_up (mFS S 1) (6 * b + 0) (mFS S 4 0)) rfl (6 * b + 1) (show 6 * b + 1 < 3072 by omega) (by decide) (mup2_mF G S 1 _ (va_up (va_up (mFS S 1) (6 * b + 0) (mFS S 4 0)) (6 * b + 1) (mFS S 4 1))) dX4_settle_28 (fun H locs hw hS => ?_)
  refine lv_iinc (v := nI 2) (lv' := [(5, .int (nI 2)), (0, .ref (g_ad G 9 0)), (1, .int (nI b)), (2, .float dx), (3, .float dy), (4, .float dz)]) hx hb dX4_settle_29 hl (k := 0) rfl (by decide) (by decide) rfl (fun ls hl => ?_)
  refine lv_goto (tgt := 3) hx hb dX4_settle_32 (by decide) ?_
  refine lv_iload hx hb dX4_settle_3 (lv_at hl 0 rfl) ?_
  refine lv_bipush (v := nI 6) hx hb dX4_settle_5 (by decide) ?_
  refine lv_icmp_ge (tgt := 35) hx hb dX4_settle_7 (by decide) (fun q => absurd q (by decide)) (fun _ => ?_)
  refine lv_aload_n hx hb dX4_settle_10 rfl (lv_at hl 1 rfl) ?_
  refine gf hx hb hown hts hw hT 9 0 (by decide) (ci := 4) rfl rfl (fun _ h => List.mem_cons_of_mem _ (List.mem_append_right _ h)) 6 (by decide) (List.mem_of_getElem? (i := 1) rfl) (v := .ref (g_ad G 10 1)) rfl dX4_settle_11 ?_
  refine lv_bipush (v := nI 6) hx hb dX4_settle_14 (by decide) ?_
  refine lv_iload_n hx hb dX4_settle_16 rfl (lv_at hl 2 rfl) ?_
  refine lv_imul hx hb dX4_settle_17 ?_
  refine top_i (y := nI (6 * b)) (pk_mul 6 b) ?_
  refine lv_iload hx hb dX4_settle_18 (lv_at hl 0 rfl) ?_
  refine lv_iadd hx hb dX4_settle_20 ?_
  refine top_i (y := nI (6 * b + 2)) (nI_add (6 * b) 2) ?_
  refine lv_aload_n hx hb dX4_settle_21 rfl (lv_at hl 1 rfl) ?_
  refine gf hx hb hown hts hw hT 9 0 (by decide) (ci := 4) rfl rfl (fun _ h => List.mem_cons_of_mem _ (List.mem_append_right _ h)) 16 (by decide) (List.mem_of_getElem? (i := 2) rfl) (v := .ref (g_ad G 10 4)) rfl dX4_settle_22 ?_
  refine lv_iload hx hb dX4_settle_25 (lv_at hl 0 rfl) ?_
  refine afl hx hb hw hT 10 4 (by decide) (f := mFS S 4) rfl 2 (by decide) (by decide) dX4_settle_27 ?_
  refine afs (S' := (mFU S (va_up (mFS S) 1 (va_up (va_up (va_up (mFS S 1) (6 * b + 0) (mFS S 4 0)) (6 * b + 1) (mFS S 4 1)) (6 * b + 2) (mFS S 4 2))))) hx hb hw hT hS 10 1 (by decide) (f := va_up (va_up (mFS S 1) (6 * b + 0) (mFS S 4 0)) (6 * b + 1) (mFS S 4 1)) rfl (6 * b + 2) (show 6 * b + 2 < 3072 by omega) (by decide) (mup2_mF G S 1 _ (va_up (va_up (va_up (mFS S 1) (6 * b + 0) (mFS S 4 0)) (6 * b + 1) (mFS S 4 1)) (6 * b + 2) (mFS S 4 2))) dX4_settle_28 (fun H locs hw hS => ?_)
  refine lv_iinc (v := nI 3) (lv' := [(5, .int (nI 3)), (0, .ref (g_ad G 9 0)), (1, .int (nI b)), (2, .float dx), (3, .float dy), (4, .float dz)]) hx hb dX4_settle_29 hl (k := 0) rfl (by decide) (by decide) rfl (fun ls hl => ?_)
  refine lv_goto (tgt := 3) hx hb dX4_settle_32 (by decide) ?_
  refine lv_iload hx hb dX4_settle_3 (lv_at hl 0 rfl) ?_
  refine lv_bipush (v := nI 6) hx hb dX4_settle_5 (by decide) ?_
  refine lv_icmp_ge (tgt := 35) hx hb dX4_settle_7 (by decide) (fun q => absurd q (by decide)) (fun _ => ?_)
  refine lv_aload_n hx hb dX4_settle_10 rfl (lv_at hl 1 rfl) ?_
  refine gf hx hb hown hts hw hT 9 0 (by decide) (ci := 4) rfl rfl (fun _ h => List.mem_cons_of_mem _ (List.mem_append_right _ h)) 6 (by decide) (List.mem_of_getElem? (i := 1) rfl) (v := .ref (g_ad G 10 1)) rfl dX4_settle_11 ?_
  refine lv_bipush (v := nI 6) hx hb dX4_settle_14 (by decide) ?_
  refine lv_iload_n hx hb dX4_settle_16 rfl (lv_at hl 2 rfl) ?_
  refine lv_imul hx hb dX4_settle_17 ?_
  refine top_i (y := nI (6 * b)) (pk_mul 6 b) ?_
  refine lv_iload hx hb dX4_settle_18 (lv_at hl 0 rfl) ?_
  refine lv_iadd hx hb dX4_settle_20 ?_
  refine top_i (y := nI (6 * b + 3)) (nI_add (6 * b) 3) ?_
  refine lv_aload_n hx hb dX4_settle_21 rfl (lv_at hl 1 rfl) ?_
  refine gf hx hb hown hts hw hT 9 0 (by decide) (ci := 4) rfl rfl (fun _ h => List.mem_cons_of_mem _ (List.mem_append_right _ h)) 16 (by decide) (List.mem_of_getElem? (i := 2) rfl) (v := .ref (g_ad G 10 4)) rfl dX4_settle_22 ?_
  refine lv_iload hx hb dX4_settle_25 (lv_at hl 0 rfl) ?_
  refine afl hx hb hw hT 10 4 (by decide) (f := mFS S 4) rfl 3 (by decide) (by decide) dX4_settle_27 ?_
  refine afs (S' := (mFU S (va_up (mFS S) 1 (va_up (va_up (va_up (va_up (mFS S 1) (6 * b + 0) (mFS S 4 0)) (6 * b + 1) (mFS S 4 1)) (6 * b + 2) (mFS S 4 2)) (6 * b + 3) (mFS S 4 3))))) hx hb hw hT hS 10 1 (by decide) (f := va_up (va_up (va_up (mFS S 1) (6 * b + 0) (mFS S 4 0)) (6 * b + 1) (mFS S 4 1)) (6 * b + 2) (mFS S 4 2)) rfl (6 * b + 3) (show 6 * b + 3 < 3072 by omega) (by decide) (mup2_mF G S 1 _ (va_up (va_up (va_up (va_up (mFS S 1) (6 * b + 0) (mFS S 4 0)) (6 * b + 1) (mFS S 4 1)) (6 * b + 2) (mFS S 4 2)) (6 * b + 3) (mFS S 4 3))) dX4_settle_28 (fun H locs hw hS => ?_)
  refine lv_iinc (v := nI 4) (lv' := [(5, .int (nI 4)), (0, .ref (g_ad G 9 0)), (1, .int (nI b)), (2, .float dx), (3, .float dy), (4, .float dz)]) hx hb dX4_settle_29 hl (k := 0) rfl (by decide) (by decide) rfl (fun ls hl => ?_)
  refine lv_goto (tgt := 3) hx hb dX4_settle_32 (by decide) ?_
  refine lv_iload hx hb dX4_settle_3 (lv_at hl 0 rfl) ?_
  refine lv_bipush (v := nI 6) hx hb dX4_settle_5 (by decide) ?_
  refine lv_icmp_ge (tgt := 35) hx hb dX4_settle_7 (by decide) (fun q => absurd q (by decide)) (fun _ => ?_)
  refine lv_aload_n hx hb dX4_settle_10 rfl (lv_at hl 1 rfl) ?_
  refine gf hx hb hown hts hw hT 9 0 (by decide) (ci := 4) rfl rfl (fun _ h => List.mem_cons_of_mem _ (List.mem_append_right _ h)) 6 (by decide) (List.mem_of_getElem? (i := 1) rfl) (v := .ref (g_ad G 10 1)) rfl dX4_settle_11 ?_
  refine lv_bipush (v := nI 6) hx hb dX4_settle_14 (by decide) ?_
  refine lv_iload_n hx hb dX4_settle_16 rfl (lv_at hl 2 rfl) ?_
  refine lv_imul hx hb dX4_settle_17 ?_
  refine top_i (y := nI (6 * b)) (pk_mul 6 b) ?_
  refine lv_iload hx hb dX4_settle_18 (lv_at hl 0 rfl) ?_
  refine lv_iadd hx hb dX4_settle_20 ?_
  refine top_i (y := nI (6 * b + 4)) (nI_add (6 * b) 4) ?_
  refine lv_aload_n hx hb dX4_settle_21 rfl (lv_at hl 1 rfl) ?_
  refine gf hx hb hown hts hw hT 9 0 (by decide) (ci := 4) rfl rfl (fun _ h => List.mem_cons_of_mem _ (List.mem_append_right _ h)) 16 (by decide) (List.mem_of_getElem? (i := 2) rfl) (v := .ref (g_ad G 10 4)) rfl dX4_settle_22 ?_
  refine lv_iload hx hb dX4_settle_25 (lv_at hl 0 rfl) ?_
  refine afl hx hb hw hT 10 4 (by decide) (f := mFS S 4) rfl 4 (by decide) (by decide) dX4_settle_27 ?_
  refine afs (S' := (mFU S (va_up (mFS S) 1 (va_up (va_up (va_up (va_up (va_up (mFS S 1) (6 * b + 0) (mFS S 4 0)) (6 * b + 1) (mFS S 4 1)) (6 * b + 2) (mFS S 4 2)) (6 * b + 3) (mFS S 4 3)) (6 * b + 4) (mFS S 4 4))))) hx hb hw hT hS 10 1 (by decide) (f := va_up (va_up (va_up (va_up (mFS S 1) (6 * b + 0) (mFS S 4 0)) (6 * b + 1) (mFS S 4 1)) (6 * b + 2) (mFS S 4 2)) (6 * b + 3) (mFS S 4 3)) rfl (6 * b + 4) (show 6 * b + 4 < 3072 by omega) (by decide) (mup2_mF G S 1 _ (va_up (va_up (va_up (va_up (va_up (mFS S 1) (6 * b + 0) (mFS S 4 0)) (6 * b + 1) (mFS S 4 1)) (6 * b + 2) (mFS S 4 2)) (6 * b + 3) (mFS S 4 3)) (6 * b + 4) (mFS S 4 4))) dX4_settle_28 (fun H locs hw hS => ?_)
  refine lv_iinc (v := nI 5) (lv' := [(5, .int (nI 5)), (0, .ref (g_ad G 9 0)), (1, .int (nI b)), (2, .float dx), (3, .float dy), (4, .float dz)]) hx hb dX4_settle_29 hl (k := 0) rfl (by decide) (by decide) rfl (fun ls hl => ?_)
  refine lv_goto (tgt := 3) hx hb dX4_settle_32 (by decide) ?_
  refine lv_iload hx hb dX4_settle_3 (lv_at hl 0 rfl) ?_
  refine lv_bipush (v := nI 6) hx hb dX4_settle_5 (by decide) ?_
  refine lv_icmp_ge (tgt := 35) hx hb dX4_settle_7 (by decide) (fun q => absurd q (by decide)) (fun _ => ?_)
  refine lv_aload_n hx hb dX4_settle_10 rfl (lv_at hl 1 rfl) ?_
  refine gf hx hb hown hts hw hT 9 0 (by decide) (ci := 4) rfl rfl (fun _ h => List.mem_cons_of_mem _ (List.mem_append_right _ h)) 6 (by decide) (List.mem_of_getElem? (i := 1) rfl) (v := .ref (g_ad G 10 1)) rfl dX4_settle_11 ?_
  refine lv_bipush (v := nI 6) hx hb dX4_settle_14 (by decide) ?_
  refine lv_iload_n hx hb dX4_settle_16 rfl (lv_at hl 2 rfl) ?_
  refine lv_imul hx hb dX4_settle_17 ?_
  refine top_i (y := nI (6 * b)) (pk_mul 6 b) ?_
  refine lv_iload hx hb dX4_settle_18 (lv_at hl 0 rfl) ?_
  refine lv_iadd hx hb dX4_settle_20 ?_
  refine top_i (y := nI (6 * b + 5)) (nI_add (6 * b) 5) ?_
  refine lv_aload_n hx hb dX4_settle_21 rfl (lv_at hl 1 rfl) ?_
  refine gf hx hb hown hts hw hT 9 0 (by decide) (ci := 4) rfl rfl (fun _ h => List.mem_cons_of_mem _ (List.mem_append_right _ h)) 16 (by decide) (List.mem_of_getElem? (i := 2) rfl) (v := .ref (g_ad G 10 4)) rfl dX4_settle_22 ?_
  refine lv_iload hx hb dX4_settle_25 (lv_at hl 0 rfl) ?_
  refine afl hx hb hw hT 10 4 (by decide) (f := mFS S 4) rfl 5 (by decide) (by decide) dX4_settle_27 ?_
  refine afs (S' := (mFU S (va_up (mFS S) 1 (va_up (va_up (va_up (va_up (va_up (va_up (mFS S 1) (6 * b + 0) (mFS S 4 0)) (6 * b + 1) (mFS S 4 1)) (6 * b + 2) (mFS S 4 2)) (6 * b + 3) (mFS S 4 3)) (6 * b + 4) (mFS S 4 4)) (6 * b + 5) (mFS S 4 5))))) hx hb hw hT hS 10 1 (by decide) (f := va_up (va_up (va_up (va_up (va_up (mFS S 1) (6 * b + 0) (mFS S 4 0)) (6 * b + 1) (mFS S 4 1)) (6 * b + 2) (mFS S 4 2)) (6 * b + 3) (mFS S 4 3)) (6 * b + 4) (mFS S 4 4)) rfl (6 * b + 5) (show 6 * b + 5 < 3072 by omega) (by decide) (mup2_mF G S 1 _ (va_up (va_up (va_up (va_up (va_up (va_up (mFS S 1) (6 * b + 0) (mFS S 4 0)) (6 * b + 1) (mFS S 4 1)) (6 * b + 2) (mFS S 4 2)) (6 * b + 3) (mFS S 4 3)) (6 * b + 4) (mFS S 4 4)) (6 * b + 5) (mFS S 4 5))) dX4_settle_28 (fun H locs hw hS => ?_)
  refine lv_iinc (v := nI 6) (lv' := [(5, .int (nI 6)), (0, .ref (g_ad G 9 0)), (1, .int (nI b)), (2, .float dx), (3, .float dy), (4, .float dz)]) hx hb dX4_settle_29 hl (k := 0) rfl (by decide) (by decide) rfl (fun ls hl => ?_)
  refine lv_goto (tgt := 3) hx hb dX4_settle_32 (by decide) ?_
  refine lv_iload hx hb dX4_settle_3 (lv_at hl 0 rfl) ?_
  refine lv_bipush (v := nI 6) hx hb dX4_settle_5 (by decide) ?_
  refine lv_icmp_ge (tgt := 35) hx hb dX4_settle_7 (by decide) (fun _ => ?_) (fun q => absurd (by decide) q)
  have hw : wdM G (tgS S b) H s := hw
  refine lv_aload_n hx hb dX4_settle_35 rfl (lv_at hl 1 rfl) ?_
  refine lv_iload_n hx hb dX4_settle_36 rfl (lv_at hl 2 rfl) ?_
  refine lv_iconst (v := nI 0) hx hb dX4_settle_37 (by decide) ?_
  refine lv_fload_n hx hb dX4_settle_38 rfl (lv_at hl 3 rfl) ?_
  refine cVv ⟨hx, hb, hml, hown, hts⟩ (m_widen0 l G (tgS S b) b (by omega) dx (by rw [tg_4]; exact hn.1)) (cwV 3 hts gX4_settle_X4_widen rfl rfl rfl (by decide +kernel) ⟨(Nat.le_of_ble_eq_true rfl), (Nat.le_of_ble_eq_true rfl)⟩) hw hT hS (rcv hw hT 9 0 (by decide) rfl rfl) (As := [.int (nI b), .int (nI 0), .float dx]) (rest := []) rfl hl.1 rfl (Nat.le_of_ble_eq_true rfl) dX4_settle_39 ⟨(Nat.le_of_ble_eq_true rfl), (Nat.le_of_ble_eq_true rfl)⟩ (fun H locs hw hS => ?_)
  refine lv_aload_n hx hb dX4_settle_42 rfl (lv_at hl 1 rfl) ?_
  refine lv_iload_n hx hb dX4_settle_43 rfl (lv_at hl 2 rfl) ?_
  refine lv_iconst (v := nI 1) hx hb dX4_settle_44 (by decide) ?_
  refine lv_fload_n hx hb dX4_settle_45 rfl (lv_at hl 4 rfl) ?_
  refine cVv ⟨hx, hb, hml, hown, hts⟩ (m_widen1 l G (wnS (tgS S b) b 0 dx) b (by omega) dy (by rw [wn_4, tg_4]; exact hn.2.1)) (cwV 3 hts gX4_settle_X4_widen rfl rfl rfl (by decide +kernel) ⟨(Nat.le_of_ble_eq_true rfl), (Nat.le_of_ble_eq_true rfl)⟩) hw hT hS (rcv hw hT 9 0 (by decide) rfl rfl) (As := [.int (nI b), .int (nI 1), .float dy]) (rest := []) rfl hl.1 rfl (Nat.le_of_ble_eq_true rfl) dX4_settle_46 ⟨(Nat.le_of_ble_eq_true rfl), (Nat.le_of_ble_eq_true rfl)⟩ (fun H locs hw hS => ?_)
  refine lv_aload_n hx hb dX4_settle_49 rfl (lv_at hl 1 rfl) ?_
  refine lv_iload_n hx hb dX4_settle_50 rfl (lv_at hl 2 rfl) ?_
  refine lv_iconst (v := nI 2) hx hb dX4_settle_51 (by decide) ?_
  refine lv_fload hx hb dX4_settle_52 (lv_at hl 5 rfl) ?_
  refine cVv ⟨hx, hb, hml, hown, hts⟩ (m_widen2 l G (wnS (wnS (tgS S b) b 0 dx) b 1 dy) b (by omega) dz (by rw [wn_4, wn_4, tg_4]; exact hn.2.2)) (cwV 3 hts gX4_settle_X4_widen rfl rfl rfl (by decide +kernel) ⟨(Nat.le_of_ble_eq_true rfl), (Nat.le_of_ble_eq_true rfl)⟩) hw hT hS (rcv hw hT 9 0 (by decide) rfl rfl) (As := [.int (nI b), .int (nI 2), .float dz]) (rest := []) rfl hl.1 rfl (Nat.le_of_ble_eq_true rfl) dX4_settle_54 ⟨(Nat.le_of_ble_eq_true rfl), (Nat.le_of_ble_eq_true rfl)⟩ (fun H locs hw hS => ?_)
  refine lv_aload_n hx hb dX4_settle_57 rfl (lv_at hl 1 rfl) ?_
  refine gf hx hb hown hts hw hT 9 0 (by decide) (ci := 4) rfl rfl (fun _ h => List.mem_cons_of_mem _ (List.mem_append_right _ h)) 3 (by decide) (List.mem_of_getElem? (i := 3) rfl) (v := .ref (g_ad G 12 1)) rfl dX4_settle_58 ?_
  refine lv_iload_n hx hb dX4_settle_61 rfl (lv_at hl 2 rfl) ?_
  refine lv_iconst (v := nI 1) hx hb dX4_settle_62 (by decide) ?_
  refine top_i (y := bI true) (by decide) ?_
  refine azs (S' := (mZU (wnS (wnS (wnS (tgS S b) b 0 dx) b 1 dy) b 2 dz) (va_up (mZS (wnS (wnS (wnS (tgS S b) b 0 dx) b 1 dy) b 2 dz)) 1 (va_up (mZS (wnS (wnS (wnS (tgS S b) b 0 dx) b 1 dy) b 2 dz) 1) b true)))) hx hb hw hT hS 12 1 (by decide) (f := (fun q => bI (mZS (wnS (wnS (wnS (tgS S b) b 0 dx) b 1 dy) b 2 dz) 1 q))) rfl b (show b < 512 by omega) (by decide) (mup_mZ G (wnS (wnS (wnS (tgS S b) b 0 dx) b 1 dy) b 2 dz) 1 b true) dX4_settle_63 (fun H locs hw hS => ?_)
  exact rv hx hb hlk hr (by unfold seS seT; exact hw) hS  (Nat.le_of_ble_eq_true rfl) (Nat.le_of_ble_eq_true rfl) dX4_settle_64
set_option maxRecDepth 100000 in
set_option maxHeartbeats 1000000 in
theorem m_least (l : Launch) (G : Gm) (S : St)  : Pi l yX4_least wsX4_least ({ frames := 0, cells := 0, slots := 0, locals := 0 } : Room) [.ref (g_ad G 9 0)] G S (nI (lsR (mZS S 0) 512 0)) S := by
  refine ent (cc := cX4_least) (maxL := 2) (ret := (some .int)) (by decide) rfl (Nat.le_of_ble_eq_true rfl) ?_
  intro p e s m below meth c ls C hw hT hS hl
  obtain ⟨hx, hb, hr, hml, hown, hts, hlk⟩ := C
  have hl : lv_has ls 2 [(0, .ref (g_ad G 9 0))] := hl
  refine lv_iconst (v := nI 0) hx hb dX4_least_0 (by decide) ?_
  refine lv_istore_n (lv' := [(1, .int (nI 0)), (0, .ref (g_ad G 9 0))]) hx hb dX4_least_1 rfl hl (by decide) rfl (fun ls hl => ?_)
  have LOOP : ∀ (n b : Nat)  (H : Heap) (locs : List Loc) (ls : Array Slot), b + n = 512 → (lsR (mZS S 0) n b = lsR (mZS S 0) 512 0) → wdM G S H s → va_S (g_A G) s.heap H locs → lv_has ls 2 [(1, .int (nI b)), (0, .ref (g_ad G 9 0))] → W p l e ({ frames := 0, cells := 0, slots := 0, locals := 0 } : Room) s m ([.ref (g_ad G 9 0)] : List Value).toArray below meth c H locs 0 0 (MQ below (Qi G (nI (lsR (mZS S 0) 512 0)) S) ([.ref (g_ad G 9 0)] : List Value).toArray s ({ frames := 0, cells := 0, slots := 0, locals := 0 } : Room).cells ({ frames := 0, cells := 0, slots := 0, locals := 0 } : Room).slots (g_A G)) (F0 m 2 ls []) := by
    intro n
    induction n with
    | zero =>
      intro b  H locs ls hn hq hw hS hl
      obtain rfl : 512 = b := by omega
      refine lv_iload_n hx hb dX4_least_2 rfl (lv_at hl 0 rfl) ?_
      refine lv_sipush (v := nI 512) hx hb dX4_least_3 (by decide) ?_
      refine lv_icmp_ge (tgt := 24) hx hb dX4_least_6 (by decide) (fun _ => ?_) (fun q => absurd (by decide) q)
      refine lv_iload_n hx hb dX4_least_24 rfl (lv_at hl 0 rfl) ?_
      exact ri hx hb hlk hr hw hS (by rw [← hq]; rfl) (vp_nar_int _) (Nat.le_of_ble_eq_true rfl) (Nat.le_of_ble_eq_true rfl) dX4_least_25
    | succ n ih =>
      intro b  H locs ls hn hq hw hS hl
      have hb9 : b < 512 := by omega
      refine lv_iload_n hx hb dX4_least_2 rfl (lv_at hl 0 rfl) ?_
      refine lv_sipush (v := nI 512) hx hb dX4_least_3 (by decide) ?_
      refine lv_icmp_ge (tgt := 24) hx hb dX4_least_6 (by decide) (fun q => absurd q (nI_ge hb9 (by decide))) (fun _ => ?_)
      refine lv_aload_n hx hb dX4_least_9 rfl (lv_at hl 1 rfl) ?_
      refine gf hx hb hown hts hw hT 9 0 (by decide) (ci := 4) rfl rfl (fun _ h => List.mem_cons_of_mem _ (List.mem_append_right _ h)) 2 (by decide) (List.mem_of_getElem? (i := 1) rfl) (v := .ref (g_ad G 12 0)) rfl dX4_least_10 ?_
      refine lv_iload_n hx hb dX4_least_13 rfl (lv_at hl 0 rfl) ?_
      refine azl hx hb hw hT 12 0 (by decide) (f := (fun q => bI (mZS S 0 q))) rfl b (show b < 512 by omega) (by decide) dX4_least_14 ?_
      refine lv_if_eq (tgt := 24) hx hb dX4_least_15 (by decide) (fun h3 => ?_) (fun h3 => ?_)
      · skip
        have h3 := bI_0.mp h3
        refine lv_iload_n hx hb dX4_least_24 rfl (lv_at hl 0 rfl) ?_
        exact ri hx hb hlk hr hw hS (by rw [← hq, lsR, if_neg (by rw [h3]; decide)]) (vp_nar_int _) (Nat.le_of_ble_eq_true rfl) (Nat.le_of_ble_eq_true rfl) dX4_least_25
      · skip
        have h3 := bI_n0.mp h3
        refine lv_iinc (v := nI (b + 1)) (lv' := [(1, .int (nI (b + 1))), (0, .ref (g_ad G 9 0))]) hx hb dX4_least_18 hl (k := 0) rfl (nI_add b 1) (by decide) rfl (fun ls hl => ?_)
        refine lv_goto (tgt := 2) hx hb dX4_least_21 (by decide) ?_
        exact ih (b + 1)  H locs ls (by omega) (by rw [← hq, lsR, if_pos h3]) hw hS (lv_sub hl [0, 1] rfl)
  exact LOOP 512 0  _ _ ls (by omega) rfl hw hS (lv_sub hl [0, 1] rfl)
set_option maxRecDepth 100000 in
set_option maxHeartbeats 1000000 in
theorem m_takePad (l : Launch) (G : Gm) (S : St)  : Pv l yX4_takePad wsX4_takePad ({ frames := 0, cells := 0, slots := 0, locals := 0 } : Room) [.ref (g_ad G 9 0)] G S (tkS S) := by
  refine ent (cc := cX4_takePad) (maxL := 2) (ret := none) (by decide) rfl (Nat.le_of_ble_eq_true rfl) ?_
  intro p e s m below meth c ls C hw hT hS hl
  obtain ⟨hx, hb, hr, hml, hown, hts, hlk⟩ := C
  have hl : lv_has ls 2 [(0, .ref (g_ad G 9 0))] := hl
  refine lv_iconst (v := nI 0) hx hb dX4_takePad_0 (by decide) ?_
  refine lv_istore_n (lv' := [(1, .int (nI 0)), (0, .ref (g_ad G 9 0))]) hx hb dX4_takePad_1 rfl hl (by decide) rfl (fun ls hl => ?_)
  refine lv_iload_n hx hb dX4_takePad_2 rfl (lv_at hl 0 rfl) ?_
  refine lv_bipush (v := nI 6) hx hb dX4_takePad_3 (by decide) ?_
  refine lv_icmp_ge (tgt := 26) hx hb dX4_takePad_5 (by decide) (fun q => absurd q (by decide)) (fun _ => ?_)
  refine lv_aload_n hx hb dX4_takePad_8 rfl (lv_at hl 1 rfl) ?_
  refine gf hx hb hown hts hw hT 9 0 (by decide) (ci := 4) rfl rfl (fun _ h => List.mem_cons_of_mem _ (List.mem_append_right _ h)) 16 (by decide) (List.mem_of_getElem? (i := 1) rfl) (v := .ref (g_ad G 10 4)) rfl dX4_takePad_9 ?_
  refine lv_iload_n hx hb dX4_takePad_12 rfl (lv_at hl 0 rfl) ?_
  refine lv_aload_n hx hb dX4_takePad_13 rfl (lv_at hl 1 rfl) ?_
  refine gf hx hb hown hts hw hT 9 0 (by decide) (ci := 4) rfl rfl (fun _ h => List.mem_cons_of_mem _ (List.mem_append_right _ h)) 1 (by decide) (List.mem_of_getElem? (i := 2) rfl) (v := .ref (g_ad G 10 0)) rfl dX4_takePad_14 ?_
  refine lv_iload_n hx hb dX4_takePad_17 rfl (lv_at hl 0 rfl) ?_
  refine afl hx hb hw hT 10 0 (by decide) (f := mFS S 0) rfl 0 (by decide) (by decide) dX4_takePad_18 ?_
  refine afs (S' := (mFU S (va_up (mFS S) 4 (va_up (mFS S 4) 0 (mFS S 0 0))))) hx hb hw hT hS 10 4 (by decide) (f := mFS S 4) rfl 0 (by decide) (by decide) (mup_mF G S 4 (va_up (mFS S 4) 0 (mFS S 0 0))) dX4_takePad_19 (fun H locs hw hS => ?_)
  refine lv_iinc (v := nI 1) (lv' := [(1, .int (nI 1)), (0, .ref (g_ad G 9 0))]) hx hb dX4_takePad_20 hl (k := 0) rfl (by decide) (by decide) rfl (fun ls hl => ?_)
  refine lv_goto (tgt := 2) hx hb dX4_takePad_23 (by decide) ?_
  refine lv_iload_n hx hb dX4_takePad_2 rfl (lv_at hl 0 rfl) ?_
  refine lv_bipush (v := nI 6) hx hb dX4_takePad_3 (by decide) ?_
  refine lv_icmp_ge (tgt := 26) hx hb dX4_takePad_5 (by decide) (fun q => absurd q (by decide)) (fun _ => ?_)
  refine lv_aload_n hx hb dX4_takePad_8 rfl (lv_at hl 1 rfl) ?_
  refine gf hx hb hown hts hw hT 9 0 (by decide) (ci := 4) rfl rfl (fun _ h => List.mem_cons_of_mem _ (List.mem_append_right _ h)) 16 (by decide) (List.mem_of_getElem? (i := 1) rfl) (v := .ref (g_ad G 10 4)) rfl dX4_takePad_9 ?_
  refine lv_iload_n hx hb dX4_takePad_12 rfl (lv_at hl 0 rfl) ?_
  refine lv_aload_n hx hb dX4_takePad_13 rfl (lv_at hl 1 rfl) ?_
  refine gf hx hb hown hts hw hT 9 0 (by decide) (ci := 4) rfl rfl (fun _ h => List.mem_cons_of_mem _ (List.mem_append_right _ h)) 1 (by decide) (List.mem_of_getElem? (i := 2) rfl) (v := .ref (g_ad G 10 0)) rfl dX4_takePad_14 ?_
  refine lv_iload_n hx hb dX4_takePad_17 rfl (lv_at hl 0 rfl) ?_
  refine afl hx hb hw hT 10 0 (by decide) (f := mFS S 0) rfl 1 (by decide) (by decide) dX4_takePad_18 ?_
  refine afs (S' := (mFU S (va_up (mFS S) 4 (va_up (va_up (mFS S 4) 0 (mFS S 0 0)) 1 (mFS S 0 1))))) hx hb hw hT hS 10 4 (by decide) (f := va_up (mFS S 4) 0 (mFS S 0 0)) rfl 1 (by decide) (by decide) (mup2_mF G S 4 _ (va_up (va_up (mFS S 4) 0 (mFS S 0 0)) 1 (mFS S 0 1))) dX4_takePad_19 (fun H locs hw hS => ?_)
  refine lv_iinc (v := nI 2) (lv' := [(1, .int (nI 2)), (0, .ref (g_ad G 9 0))]) hx hb dX4_takePad_20 hl (k := 0) rfl (by decide) (by decide) rfl (fun ls hl => ?_)
  refine lv_goto (tgt := 2) hx hb dX4_takePad_23 (by decide) ?_
  refine lv_iload_n hx hb dX4_takePad_2 rfl (lv_at hl 0 rfl) ?_
  refine lv_bipush (v := nI 6) hx hb dX4_takePad_3 (by decide) ?_
  refine lv_icmp_ge (tgt := 26) hx hb dX4_takePad_5 (by decide) (fun q => absurd q (by decide)) (fun _ => ?_)
  refine lv_aload_n hx hb dX4_takePad_8 rfl (lv_at hl 1 rfl) ?_
  refine gf hx hb hown hts hw hT 9 0 (by decide) (ci := 4) rfl rfl (fun _ h => List.mem_cons_of_mem _ (List.mem_append_right _ h)) 16 (by decide) (List.mem_of_getElem? (i := 1) rfl) (v := .ref (g_ad G 10 4)) rfl dX4_takePad_9 ?_
  refine lv_iload_n hx hb dX4_takePad_12 rfl (lv_at hl 0 rfl) ?_
  refine lv_aload_n hx hb dX4_takePad_13 rfl (lv_at hl 1 rfl) ?_
  refine gf hx hb hown hts hw hT 9 0 (by decide) (ci := 4) rfl rfl (fun _ h => List.mem_cons_of_mem _ (List.mem_append_right _ h)) 1 (by decide) (List.mem_of_getElem? (i := 2) rfl) (v := .ref (g_ad G 10 0)) rfl dX4_takePad_14 ?_
  refine lv_iload_n hx hb dX4_takePad_17 rfl (lv_at hl 0 rfl) ?_
  refine afl hx hb hw hT 10 0 (by decide) (f := mFS S 0) rfl 2 (by decide) (by decide) dX4_takePad_18 ?_
  refine afs (S' := (mFU S (va_up (mFS S) 4 (va_up (va_up (va_up (mFS S 4) 0 (mFS S 0 0)) 1 (mFS S 0 1)) 2 (mFS S 0 2))))) hx hb hw hT hS 10 4 (by decide) (f := va_up (va_up (mFS S 4) 0 (mFS S 0 0)) 1 (mFS S 0 1)) rfl 2 (by decide) (by decide) (mup2_mF G S 4 _ (va_up (va_up (va_up (mFS S 4) 0 (mFS S 0 0)) 1 (mFS S 0 1)) 2 (mFS S 0 2))) dX4_takePad_19 (fun H locs hw hS => ?_)
  refine lv_iinc (v := nI 3) (lv' := [(1, .int (nI 3)), (0, .ref (g_ad G 9 0))]) hx hb dX4_takePad_20 hl (k := 0) rfl (by decide) (by decide) rfl (fun ls hl => ?_)
  refine lv_goto (tgt := 2) hx hb dX4_takePad_23 (by decide) ?_
  refine lv_iload_n hx hb dX4_takePad_2 rfl (lv_at hl 0 rfl) ?_
  refine lv_bipush (v := nI 6) hx hb dX4_takePad_3 (by decide) ?_
  refine lv_icmp_ge (tgt := 26) hx hb dX4_takePad_5 (by decide) (fun q => absurd q (by decide)) (fun _ => ?_)
  refine lv_aload_n hx hb dX4_takePad_8 rfl (lv_at hl 1 rfl) ?_
  refine gf hx hb hown hts hw hT 9 0 (by decide) (ci := 4) rfl rfl (fun _ h => List.mem_cons_of_mem _ (List.mem_append_right _ h)) 16 (by decide) (List.mem_of_getElem? (i := 1) rfl) (v := .ref (g_ad G 10 4)) rfl dX4_takePad_9 ?_
  refine lv_iload_n hx hb dX4_takePad_12 rfl (lv_at hl 0 rfl) ?_
  refine lv_aload_n hx hb dX4_takePad_13 rfl (lv_at hl 1 rfl) ?_
  refine gf hx hb hown hts hw hT 9 0 (by decide) (ci := 4) rfl rfl (fun _ h => List.mem_cons_of_mem _ (List.mem_append_right _ h)) 1 (by decide) (List.mem_of_getElem? (i := 2) rfl) (v := .ref (g_ad G 10 0)) rfl dX4_takePad_14 ?_
  refine lv_iload_n hx hb dX4_takePad_17 rfl (lv_at hl 0 rfl) ?_
  refine afl hx hb hw hT 10 0 (by decide) (f := mFS S 0) rfl 3 (by decide) (by decide) dX4_takePad_18 ?_
  refine afs (S' := (mFU S (va_up (mFS S) 4 (va_up (va_up (va_up (va_up (mFS S 4) 0 (mFS S 0 0)) 1 (mFS S 0 1)) 2 (mFS S 0 2)) 3 (mFS S 0 3))))) hx hb hw hT hS 10 4 (by decide) (f := va_up (va_up (va_up (mFS S 4) 0 (mFS S 0 0)) 1 (mFS S 0 1)) 2 (mFS S 0 2)) rfl 3 (by decide) (by decide) (mup2_mF G S 4 _ (va_up (va_up (va_up (va_up (mFS S 4) 0 (mFS S 0 0)) 1 (mFS S 0 1)) 2 (mFS S 0 2)) 3 (mFS S 0 3))) dX4_takePad_19 (fun H locs hw hS => ?_)
  refine lv_iinc (v := nI 4) (lv' := [(1, .int (nI 4)), (0, .ref (g_ad G 9 0))]) hx hb dX4_takePad_20 hl (k := 0) rfl (by decide) (by decide) rfl (fun ls hl => ?_)
  refine lv_goto (tgt := 2) hx hb dX4_takePad_23 (by decide) ?_
  refine lv_iload_n hx hb dX4_takePad_2 rfl (lv_at hl 0 rfl) ?_
  refine lv_bipush (v := nI 6) hx hb dX4_takePad_3 (by decide) ?_
  refine lv_icmp_ge (tgt := 26) hx hb dX4_takePad_5 (by decide) (fun q => absurd q (by decide)) (fun _ => ?_)
  refine lv_aload_n hx hb dX4_takePad_8 rfl (lv_at hl 1 rfl) ?_
  refine gf hx hb hown hts hw hT 9 0 (by decide) (ci := 4) rfl rfl (fun _ h => List.mem_cons_of_mem _ (List.mem_append_right _ h)) 16 (by decide) (List.mem_of_getElem? (i := 1) rfl) (v := .ref (g_ad G 10 4)) rfl dX4_takePad_9 ?_
  refine lv_iload_n hx hb dX4_takePad_12 rfl (lv_at hl 0 rfl) ?_
  refine lv_aload_n hx hb dX4_takePad_13 rfl (lv_at hl 1 rfl) ?_
  refine gf hx hb hown hts hw hT 9 0 (by decide) (ci := 4) rfl rfl (fun _ h => List.mem_cons_of_mem _ (List.mem_append_right _ h)) 1 (by decide) (List.mem_of_getElem? (i := 2) rfl) (v := .ref (g_ad G 10 0)) rfl dX4_takePad_14 ?_
  refine lv_iload_n hx hb dX4_takePad_17 rfl (lv_at hl 0 rfl) ?_
  refine afl hx hb hw hT 10 0 (by decide) (f := mFS S 0) rfl 4 (by decide) (by decide) dX4_takePad_18 ?_
  refine afs (S' := (mFU S (va_up (mFS S) 4 (va_up (va_up (va_up (va_up (va_up (mFS S 4) 0 (mFS S 0 0)) 1 (mFS S 0 1)) 2 (mFS S 0 2)) 3 (mFS S 0 3)) 4 (mFS S 0 4))))) hx hb hw hT hS 10 4 (by decide) (f := va_up (va_up (va_up (va_up (mFS S 4) 0 (mFS S 0 0)) 1 (mFS S 0 1)) 2 (mFS S 0 2)) 3 (mFS S 0 3)) rfl 4 (by decide) (by decide) (mup2_mF G S 4 _ (va_up (va_up (va_up (va_up (va_up (mFS S 4) 0 (mFS S 0 0)) 1 (mFS S 0 1)) 2 (mFS S 0 2)) 3 (mFS S 0 3)) 4 (mFS S 0 4))) dX4_takePad_19 (fun H locs hw hS => ?_)
  refine lv_iinc (v := nI 5) (lv' := [(1, .int (nI 5)), (0, .ref (g_ad G 9 0))]) hx hb dX4_takePad_20 hl (k := 0) rfl (by decide) (by decide) rfl (fun ls hl => ?_)
  refine lv_goto (tgt := 2) hx hb dX4_takePad_23 (by decide) ?_
  refine lv_iload_n hx hb dX4_takePad_2 rfl (lv_at hl 0 rfl) ?_
  refine lv_bipush (v := nI 6) hx hb dX4_takePad_3 (by decide) ?_
  refine lv_icmp_ge (tgt := 26) hx hb dX4_takePad_5 (by decide) (fun q => absurd q (by decide)) (fun _ => ?_)
  refine lv_aload_n hx hb dX4_takePad_8 rfl (lv_at hl 1 rfl) ?_
  refine gf hx hb hown hts hw hT 9 0 (by decide) (ci := 4) rfl rfl (fun _ h => List.mem_cons_of_mem _ (List.mem_append_right _ h)) 16 (by decide) (List.mem_of_getElem? (i := 1) rfl) (v := .ref (g_ad G 10 4)) rfl dX4_takePad_9 ?_
  refine lv_iload_n hx hb dX4_takePad_12 rfl (lv_at hl 0 rfl) ?_
  refine lv_aload_n hx hb dX4_takePad_13 rfl (lv_at hl 1 rfl) ?_
  refine gf hx hb hown hts hw hT 9 0 (by decide) (ci := 4) rfl rfl (fun _ h => List.mem_cons_of_mem _ (List.mem_append_right _ h)) 1 (by decide) (List.mem_of_getElem? (i := 2) rfl) (v := .ref (g_ad G 10 0)) rfl dX4_takePad_14 ?_
  refine lv_iload_n hx hb dX4_takePad_17 rfl (lv_at hl 0 rfl) ?_
  refine afl hx hb hw hT 10 0 (by decide) (f := mFS S 0) rfl 5 (by decide) (by decide) dX4_takePad_18 ?_
  refine afs (S' := (mFU S (va_up (mFS S) 4 (va_up (va_up (va_up (va_up (va_up (va_up (mFS S 4) 0 (mFS S 0 0)) 1 (mFS S 0 1)) 2 (mFS S 0 2)) 3 (mFS S 0 3)) 4 (mFS S 0 4)) 5 (mFS S 0 5))))) hx hb hw hT hS 10 4 (by decide) (f := va_up (va_up (va_up (va_up (va_up (mFS S 4) 0 (mFS S 0 0)) 1 (mFS S 0 1)) 2 (mFS S 0 2)) 3 (mFS S 0 3)) 4 (mFS S 0 4)) rfl 5 (by decide) (by decide) (mup2_mF G S 4 _ (va_up (va_up (va_up (va_up (va_up (va_up (mFS S 4) 0 (mFS S 0 0)) 1 (mFS S 0 1)) 2 (mFS S 0 2)) 3 (mFS S 0 3)) 4 (mFS S 0 4)) 5 (mFS S 0 5))) dX4_takePad_19 (fun H locs hw hS => ?_)
  refine lv_iinc (v := nI 6) (lv' := [(1, .int (nI 6)), (0, .ref (g_ad G 9 0))]) hx hb dX4_takePad_20 hl (k := 0) rfl (by decide) (by decide) rfl (fun ls hl => ?_)
  refine lv_goto (tgt := 2) hx hb dX4_takePad_23 (by decide) ?_
  refine lv_iload_n hx hb dX4_takePad_2 rfl (lv_at hl 0 rfl) ?_
  refine lv_bipush (v := nI 6) hx hb dX4_takePad_3 (by decide) ?_
  refine lv_icmp_ge (tgt := 26) hx hb dX4_takePad_5 (by decide) (fun _ => ?_) (fun q => absurd (by decide) q)
  exact rv hx hb hlk hr hw hS  (Nat.le_of_ble_eq_true rfl) (Nat.le_of_ble_eq_true rfl) dX4_takePad_26
set_option maxRecDepth 100000 in
set_option maxHeartbeats 1000000 in
theorem m_goesOn (l : Launch) (G : Gm) (S : St) (dx dy dz : UInt32) (hn : mvN (mFS S 4) dx dy dz) : Pi l yX4_goesOn wsX4_goesOn ({ frames := 1, cells := 0, slots := 0, locals := 20 } : Room) [.ref (g_ad G 9 0), .float dx, .float dy, .float dz] G S (bI (gnF (mFS S 4) dx dy dz)) (gnS S dx dy dz) := by
  refine ent (cc := cX4_goesOn) (maxL := 7) (ret := (some .boolean)) (by decide) rfl (Nat.le_of_ble_eq_true rfl) ?_
  intro p e s m below meth c ls C hw hT hS hl
  obtain ⟨hx, hb, hr, hml, hown, hts, hlk⟩ := C
  have hl : lv_has ls 7 [(0, .ref (g_ad G 9 0)), (1, .float dx), (2, .float dy), (3, .float dz)] := hl
  refine lv_iconst (v := nI 1) hx hb dX4_goesOn_0 (by decide) ?_
  refine lv_istore (lv' := [(4, .int (nI 1)), (0, .ref (g_ad G 9 0)), (1, .float dx), (2, .float dy), (3, .float dz)]) hx hb dX4_goesOn_1 hl (by decide) rfl (fun ls hl => ?_)
  refine lv_iconst (v := nI 0) hx hb dX4_goesOn_3 (by decide) ?_
  refine lv_istore (lv' := [(5, .int (nI 0)), (4, .int (nI 1)), (0, .ref (g_ad G 9 0)), (1, .float dx), (2, .float dy), (3, .float dz)]) hx hb dX4_goesOn_4 hl (by decide) rfl (fun ls hl => ?_)
  refine lv_iload hx hb dX4_goesOn_6 (lv_at hl 0 rfl) ?_
  refine lv_bipush (v := nI 6) hx hb dX4_goesOn_8 (by decide) ?_
  refine lv_icmp_ge (tgt := 87) hx hb dX4_goesOn_10 (by decide) (fun q => absurd q (by decide)) (fun _ => ?_)
  refine lv_iload hx hb dX4_goesOn_13 (lv_at hl 0 rfl) ?_
  refine lv_iconst (v := nI 3) hx hb dX4_goesOn_15 (by decide) ?_
  refine lv_irem hx hb dX4_goesOn_16 (by decide) ?_
  refine top_i (y := nI 0) (by decide) ?_
  refine lv_if_ne (tgt := 24) hx hb dX4_goesOn_17 (by decide) (fun q => absurd (by decide) q) (fun _ => ?_)
  refine lv_fload_n hx hb dX4_goesOn_20 rfl (lv_at hl 3 rfl) ?_
  refine lv_goto (tgt := 37) hx hb dX4_goesOn_21 (by decide) ?_
  refine lv_fstore (lv' := [(6, .float dx), (5, .int (nI 0)), (4, .int (nI 1)), (0, .ref (g_ad G 9 0)), (1, .float dx), (2, .float dy), (3, .float dz)]) hx hb dX4_goesOn_37 hl (by decide) rfl (fun ls hl => ?_)
  refine lv_aload_n hx hb dX4_goesOn_39 rfl (lv_at hl 3 rfl) ?_
  refine gf hx hb hown hts hw hT 9 0 (by decide) (ci := 4) rfl rfl (fun _ h => List.mem_cons_of_mem _ (List.mem_append_right _ h)) 16 (by decide) (List.mem_of_getElem? (i := 1) rfl) (v := .ref (g_ad G 10 4)) rfl dX4_goesOn_40 ?_
  refine lv_iload hx hb dX4_goesOn_43 (lv_at hl 1 rfl) ?_
  refine lv_aload_n hx hb dX4_goesOn_45 rfl (lv_at hl 3 rfl) ?_
  refine gf hx hb hown hts hw hT 9 0 (by decide) (ci := 4) rfl rfl (fun _ h => List.mem_cons_of_mem _ (List.mem_append_right _ h)) 16 (by decide) (List.mem_of_getElem? (i := 1) rfl) (v := .ref (g_ad G 10 4)) rfl dX4_goesOn_46 ?_
  refine lv_iload hx hb dX4_goesOn_49 (lv_at hl 1 rfl) ?_
  refine afl hx hb hw hT 10 4 (by decide) (f := mFS S 4) rfl 0 (by decide) (by decide) dX4_goesOn_51 ?_
  refine lv_fload hx hb dX4_goesOn_52 (lv_at hl 0 rfl) ?_
  refine lv_fadd hx hb dX4_goesOn_54 hn.1 ?_
  refine afs (S' := (mFU S (va_up (mFS S) 4 (va_up (mFS S 4) 0 (FP.fadd (mFS S 4 0) dx))))) hx hb hw hT hS 10 4 (by decide) (f := mFS S 4) rfl 0 (by decide) (by decide) (mup_mF G S 4 (va_up (mFS S 4) 0 (FP.fadd (mFS S 4 0) dx))) dX4_goesOn_55 (fun H locs hw hS => ?_)
  have K3 : ∀ (b9 : Bool) (H : Heap) (locs : List Loc), b9 = (goF (FP.fadd (mFS S 4 0) dx)) → wdM G (mFU S (va_up (mFS S) 4 (va_up (mFS S 4) 0 (FP.fadd (mFS S 4 0) dx)))) H s → va_S (g_A G) s.heap H locs → W p l e ({ frames := 1, cells := 0, slots := 0, locals := 20 } : Room) s m ([.ref (g_ad G 9 0), .float dx, .float dy, .float dz] : List Value).toArray below meth c H locs 0 0 (MQ below (Qi G (bI (gnF (mFS S 4) dx dy dz)) (gnS S dx dy dz)) ([.ref (g_ad G 9 0), .float dx, .float dy, .float dz] : List Value).toArray s ({ frames := 1, cells := 0, slots := 0, locals := 20 } : Room).cells ({ frames := 1, cells := 0, slots := 0, locals := 20 } : Room).slots (g_A G)) (F0 m 79 ls [.int (bI b9)]) := by
    intro b9 H locs hb9 hw hS
    subst hb9
    refine lv_istore (lv' := [(4, .int (bI (goF (FP.fadd (mFS S 4 0) dx)))), (6, .float dx), (5, .int (nI 0)), (0, .ref (g_ad G 9 0)), (1, .float dx), (2, .float dy), (3, .float dz)]) hx hb dX4_goesOn_79 hl (by decide) rfl (fun ls hl => ?_)
    refine lv_iinc (v := nI 1) (lv' := [(5, .int (nI 1)), (4, .int (bI (goF (FP.fadd (mFS S 4 0) dx)))), (6, .float dx), (0, .ref (g_ad G 9 0)), (1, .float dx), (2, .float dy), (3, .float dz)]) hx hb dX4_goesOn_81 hl (k := 2) rfl (by decide) (by decide) rfl (fun ls hl => ?_)
    refine lv_goto (tgt := 6) hx hb dX4_goesOn_84 (by decide) ?_
    refine lv_iload hx hb dX4_goesOn_6 (lv_at hl 0 rfl) ?_
    refine lv_bipush (v := nI 6) hx hb dX4_goesOn_8 (by decide) ?_
    refine lv_icmp_ge (tgt := 87) hx hb dX4_goesOn_10 (by decide) (fun q => absurd q (by decide)) (fun _ => ?_)
    refine lv_iload hx hb dX4_goesOn_13 (lv_at hl 0 rfl) ?_
    refine lv_iconst (v := nI 3) hx hb dX4_goesOn_15 (by decide) ?_
    refine lv_irem hx hb dX4_goesOn_16 (by decide) ?_
    refine top_i (y := nI 1) (by decide) ?_
    refine lv_if_ne (tgt := 24) hx hb dX4_goesOn_17 (by decide) (fun _ => ?_) (fun q => absurd q (by decide))
    refine lv_iload hx hb dX4_goesOn_24 (lv_at hl 0 rfl) ?_
    refine lv_iconst (v := nI 3) hx hb dX4_goesOn_26 (by decide) ?_
    refine lv_irem hx hb dX4_goesOn_27 (by decide) ?_
    refine top_i (y := nI 1) (by decide) ?_
    refine lv_iconst (v := nI 1) hx hb dX4_goesOn_28 (by decide) ?_
    refine lv_icmp_ne (tgt := 36) hx hb dX4_goesOn_29 (by decide) (fun q => absurd (by decide) q) (fun _ => ?_)
    refine lv_fload_n hx hb dX4_goesOn_32 rfl (lv_at hl 5 rfl) ?_
    refine lv_goto (tgt := 37) hx hb dX4_goesOn_33 (by decide) ?_
    refine lv_fstore (lv' := [(6, .float dy), (5, .int (nI 1)), (4, .int (bI (goF (FP.fadd (mFS S 4 0) dx)))), (0, .ref (g_ad G 9 0)), (1, .float dx), (2, .float dy), (3, .float dz)]) hx hb dX4_goesOn_37 hl (by decide) rfl (fun ls hl => ?_)
    refine lv_aload_n hx hb dX4_goesOn_39 rfl (lv_at hl 3 rfl) ?_
    refine gf hx hb hown hts hw hT 9 0 (by decide) (ci := 4) rfl rfl (fun _ h => List.mem_cons_of_mem _ (List.mem_append_right _ h)) 16 (by decide) (List.mem_of_getElem? (i := 1) rfl) (v := .ref (g_ad G 10 4)) rfl dX4_goesOn_40 ?_
    refine lv_iload hx hb dX4_goesOn_43 (lv_at hl 1 rfl) ?_
    refine lv_aload_n hx hb dX4_goesOn_45 rfl (lv_at hl 3 rfl) ?_
    refine gf hx hb hown hts hw hT 9 0 (by decide) (ci := 4) rfl rfl (fun _ h => List.mem_cons_of_mem _ (List.mem_append_right _ h)) 16 (by decide) (List.mem_of_getElem? (i := 1) rfl) (v := .ref (g_ad G 10 4)) rfl dX4_goesOn_46 ?_
    refine lv_iload hx hb dX4_goesOn_49 (lv_at hl 1 rfl) ?_
    refine afl hx hb hw hT 10 4 (by decide) (f := va_up (mFS S 4) 0 (FP.fadd (mFS S 4 0) dx)) rfl 1 (by decide) (by decide) dX4_goesOn_51 ?_
    refine top_f (y := mFS S 4 1) rfl ?_
    refine lv_fload hx hb dX4_goesOn_52 (lv_at hl 0 rfl) ?_
    refine lv_fadd hx hb dX4_goesOn_54 hn.2.1 ?_
    refine afs (S' := (mFU S (va_up (mFS S) 4 (va_up (va_up (mFS S 4) 0 (FP.fadd (mFS S 4 0) dx)) 1 (FP.fadd (mFS S 4 1) dy))))) hx hb hw hT hS 10 4 (by decide) (f := va_up (mFS S 4) 0 (FP.fadd (mFS S 4 0) dx)) rfl 1 (by decide) (by decide) (mup2_mF G S 4 _ (va_up (va_up (mFS S 4) 0 (FP.fadd (mFS S 4 0) dx)) 1 (FP.fadd (mFS S 4 1) dy))) dX4_goesOn_55 (fun H locs hw hS => ?_)
    have K7 : ∀ (b9 : Bool) (H : Heap) (locs : List Loc), b9 = (goF (FP.fadd (mFS S 4 0) dx) && goF (FP.fadd (mFS S 4 1) dy)) → wdM G (mFU S (va_up (mFS S) 4 (va_up (va_up (mFS S 4) 0 (FP.fadd (mFS S 4 0) dx)) 1 (FP.fadd (mFS S 4 1) dy)))) H s → va_S (g_A G) s.heap H locs → W p l e ({ frames := 1, cells := 0, slots := 0, locals := 20 } : Room) s m ([.ref (g_ad G 9 0), .float dx, .float dy, .float dz] : List Value).toArray below meth c H locs 0 0 (MQ below (Qi G (bI (gnF (mFS S 4) dx dy dz)) (gnS S dx dy dz)) ([.ref (g_ad G 9 0), .float dx, .float dy, .float dz] : List Value).toArray s ({ frames := 1, cells := 0, slots := 0, locals := 20 } : Room).cells ({ frames := 1, cells := 0, slots := 0, locals := 20 } : Room).slots (g_A G)) (F0 m 79 ls [.int (bI b9)]) := by
      intro b9 H locs hb9 hw hS
      subst hb9
      refine lv_istore (lv' := [(4, .int (bI (goF (FP.fadd (mFS S 4 0) dx) && goF (FP.fadd (mFS S 4 1) dy)))), (6, .float dy), (5, .int (nI 1)), (0, .ref (g_ad G 9 0)), (1, .float dx), (2, .float dy), (3, .float dz)]) hx hb dX4_goesOn_79 hl (by decide) rfl (fun ls hl => ?_)
      refine lv_iinc (v := nI 2) (lv' := [(5, .int (nI 2)), (4, .int (bI (goF (FP.fadd (mFS S 4 0) dx) && goF (FP.fadd (mFS S 4 1) dy)))), (6, .float dy), (0, .ref (g_ad G 9 0)), (1, .float dx), (2, .float dy), (3, .float dz)]) hx hb dX4_goesOn_81 hl (k := 2) rfl (by decide) (by decide) rfl (fun ls hl => ?_)
      refine lv_goto (tgt := 6) hx hb dX4_goesOn_84 (by decide) ?_
      refine lv_iload hx hb dX4_goesOn_6 (lv_at hl 0 rfl) ?_
      refine lv_bipush (v := nI 6) hx hb dX4_goesOn_8 (by decide) ?_
      refine lv_icmp_ge (tgt := 87) hx hb dX4_goesOn_10 (by decide) (fun q => absurd q (by decide)) (fun _ => ?_)
      refine lv_iload hx hb dX4_goesOn_13 (lv_at hl 0 rfl) ?_
      refine lv_iconst (v := nI 3) hx hb dX4_goesOn_15 (by decide) ?_
      refine lv_irem hx hb dX4_goesOn_16 (by decide) ?_
      refine top_i (y := nI 2) (by decide) ?_
      refine lv_if_ne (tgt := 24) hx hb dX4_goesOn_17 (by decide) (fun _ => ?_) (fun q => absurd q (by decide))
      refine lv_iload hx hb dX4_goesOn_24 (lv_at hl 0 rfl) ?_
      refine lv_iconst (v := nI 3) hx hb dX4_goesOn_26 (by decide) ?_
      refine lv_irem hx hb dX4_goesOn_27 (by decide) ?_
      refine top_i (y := nI 2) (by decide) ?_
      refine lv_iconst (v := nI 1) hx hb dX4_goesOn_28 (by decide) ?_
      refine lv_icmp_ne (tgt := 36) hx hb dX4_goesOn_29 (by decide) (fun _ => ?_) (fun q => absurd q (by decide))
      refine lv_fload_n hx hb dX4_goesOn_36 rfl (lv_at hl 6 rfl) ?_
      refine lv_fstore (lv' := [(6, .float dz), (5, .int (nI 2)), (4, .int (bI (goF (FP.fadd (mFS S 4 0) dx) && goF (FP.fadd (mFS S 4 1) dy)))), (0, .ref (g_ad G 9 0)), (1, .float dx), (2, .float dy), (3, .float dz)]) hx hb dX4_goesOn_37 hl (by decide) rfl (fun ls hl => ?_)
      refine lv_aload_n hx hb dX4_goesOn_39 rfl (lv_at hl 3 rfl) ?_
      refine gf hx hb hown hts hw hT 9 0 (by decide) (ci := 4) rfl rfl (fun _ h => List.mem_cons_of_mem _ (List.mem_append_right _ h)) 16 (by decide) (List.mem_of_getElem? (i := 1) rfl) (v := .ref (g_ad G 10 4)) rfl dX4_goesOn_40 ?_
      refine lv_iload hx hb dX4_goesOn_43 (lv_at hl 1 rfl) ?_
      refine lv_aload_n hx hb dX4_goesOn_45 rfl (lv_at hl 3 rfl) ?_
      refine gf hx hb hown hts hw hT 9 0 (by decide) (ci := 4) rfl rfl (fun _ h => List.mem_cons_of_mem _ (List.mem_append_right _ h)) 16 (by decide) (List.mem_of_getElem? (i := 1) rfl) (v := .ref (g_ad G 10 4)) rfl dX4_goesOn_46 ?_
      refine lv_iload hx hb dX4_goesOn_49 (lv_at hl 1 rfl) ?_
      refine afl hx hb hw hT 10 4 (by decide) (f := va_up (va_up (mFS S 4) 0 (FP.fadd (mFS S 4 0) dx)) 1 (FP.fadd (mFS S 4 1) dy)) rfl 2 (by decide) (by decide) dX4_goesOn_51 ?_
      refine top_f (y := mFS S 4 2) rfl ?_
      refine lv_fload hx hb dX4_goesOn_52 (lv_at hl 0 rfl) ?_
      refine lv_fadd hx hb dX4_goesOn_54 hn.2.2.1 ?_
      refine afs (S' := (mFU S (va_up (mFS S) 4 (va_up (va_up (va_up (mFS S 4) 0 (FP.fadd (mFS S 4 0) dx)) 1 (FP.fadd (mFS S 4 1) dy)) 2 (FP.fadd (mFS S 4 2) dz))))) hx hb hw hT hS 10 4 (by decide) (f := va_up (va_up (mFS S 4) 0 (FP.fadd (mFS S 4 0) dx)) 1 (FP.fadd (mFS S 4 1) dy)) rfl 2 (by decide) (by decide) (mup2_mF G S 4 _ (va_up (va_up (va_up (mFS S 4) 0 (FP.fadd (mFS S 4 0) dx)) 1 (FP.fadd (mFS S 4 1) dy)) 2 (FP.fadd (mFS S 4 2) dz))) dX4_goesOn_55 (fun H locs hw hS => ?_)
      have K11 : ∀ (b9 : Bool) (H : Heap) (locs : List Loc), b9 = ((goF (FP.fadd (mFS S 4 0) dx) && goF (FP.fadd (mFS S 4 1) dy)) && goF (FP.fadd (mFS S 4 2) dz)) → wdM G (mFU S (va_up (mFS S) 4 (va_up (va_up (va_up (mFS S 4) 0 (FP.fadd (mFS S 4 0) dx)) 1 (FP.fadd (mFS S 4 1) dy)) 2 (FP.fadd (mFS S 4 2) dz)))) H s → va_S (g_A G) s.heap H locs → W p l e ({ frames := 1, cells := 0, slots := 0, locals := 20 } : Room) s m ([.ref (g_ad G 9 0), .float dx, .float dy, .float dz] : List Value).toArray below meth c H locs 0 0 (MQ below (Qi G (bI (gnF (mFS S 4) dx dy dz)) (gnS S dx dy dz)) ([.ref (g_ad G 9 0), .float dx, .float dy, .float dz] : List Value).toArray s ({ frames := 1, cells := 0, slots := 0, locals := 20 } : Room).cells ({ frames := 1, cells := 0, slots := 0, locals := 20 } : Room).slots (g_A G)) (F0 m 79 ls [.int (bI b9)]) := by
        intro b9 H locs hb9 hw hS
        subst hb9
        refine lv_istore (lv' := [(4, .int (bI ((goF (FP.fadd (mFS S 4 0) dx) && goF (FP.fadd (mFS S 4 1) dy)) && goF (FP.fadd (mFS S 4 2) dz)))), (6, .float dz), (5, .int (nI 2)), (0, .ref (g_ad G 9 0)), (1, .float dx), (2, .float dy), (3, .float dz)]) hx hb dX4_goesOn_79 hl (by decide) rfl (fun ls hl => ?_)
        refine lv_iinc (v := nI 3) (lv' := [(5, .int (nI 3)), (4, .int (bI ((goF (FP.fadd (mFS S 4 0) dx) && goF (FP.fadd (mFS S 4 1) dy)) && goF (FP.fadd (mFS S 4 2) dz)))), (6, .float dz), (0, .ref (g_ad G 9 0)), (1, .float dx), (2, .float dy), (3, .float dz)]) hx hb dX4_goesOn_81 hl (k := 2) rfl (by decide) (by decide) rfl (fun ls hl => ?_)
        refine lv_goto (tgt := 6) hx hb dX4_goesOn_84 (by decide) ?_
        refine lv_iload hx hb dX4_goesOn_6 (lv_at hl 0 rfl) ?_
        refine lv_bipush (v := nI 6) hx hb dX4_goesOn_8 (by decide) ?_
        refine lv_icmp_ge (tgt := 87) hx hb dX4_goesOn_10 (by decide) (fun q => absurd q (by decide)) (fun _ => ?_)
        refine lv_iload hx hb dX4_goesOn_13 (lv_at hl 0 rfl) ?_
        refine lv_iconst (v := nI 3) hx hb dX4_goesOn_15 (by decide) ?_
        refine lv_irem hx hb dX4_goesOn_16 (by decide) ?_
        refine top_i (y := nI 0) (by decide) ?_
        refine lv_if_ne (tgt := 24) hx hb dX4_goesOn_17 (by decide) (fun q => absurd (by decide) q) (fun _ => ?_)
        refine lv_fload_n hx hb dX4_goesOn_20 rfl (lv_at hl 4 rfl) ?_
        refine lv_goto (tgt := 37) hx hb dX4_goesOn_21 (by decide) ?_
        refine lv_fstore (lv' := [(6, .float dx), (5, .int (nI 3)), (4, .int (bI ((goF (FP.fadd (mFS S 4 0) dx) && goF (FP.fadd (mFS S 4 1) dy)) && goF (FP.fadd (mFS S 4 2) dz)))), (0, .ref (g_ad G 9 0)), (1, .float dx), (2, .float dy), (3, .float dz)]) hx hb dX4_goesOn_37 hl (by decide) rfl (fun ls hl => ?_)
        refine lv_aload_n hx hb dX4_goesOn_39 rfl (lv_at hl 3 rfl) ?_
        refine gf hx hb hown hts hw hT 9 0 (by decide) (ci := 4) rfl rfl (fun _ h => List.mem_cons_of_mem _ (List.mem_append_right _ h)) 16 (by decide) (List.mem_of_getElem? (i := 1) rfl) (v := .ref (g_ad G 10 4)) rfl dX4_goesOn_40 ?_
        refine lv_iload hx hb dX4_goesOn_43 (lv_at hl 1 rfl) ?_
        refine lv_aload_n hx hb dX4_goesOn_45 rfl (lv_at hl 3 rfl) ?_
        refine gf hx hb hown hts hw hT 9 0 (by decide) (ci := 4) rfl rfl (fun _ h => List.mem_cons_of_mem _ (List.mem_append_right _ h)) 16 (by decide) (List.mem_of_getElem? (i := 1) rfl) (v := .ref (g_ad G 10 4)) rfl dX4_goesOn_46 ?_
        refine lv_iload hx hb dX4_goesOn_49 (lv_at hl 1 rfl) ?_
        refine afl hx hb hw hT 10 4 (by decide) (f := va_up (va_up (va_up (mFS S 4) 0 (FP.fadd (mFS S 4 0) dx)) 1 (FP.fadd (mFS S 4 1) dy)) 2 (FP.fadd (mFS S 4 2) dz)) rfl 3 (by decide) (by decide) dX4_goesOn_51 ?_
        refine top_f (y := mFS S 4 3) rfl ?_
        refine lv_fload hx hb dX4_goesOn_52 (lv_at hl 0 rfl) ?_
        refine lv_fadd hx hb dX4_goesOn_54 hn.2.2.2.1 ?_
        refine afs (S' := (mFU S (va_up (mFS S) 4 (va_up (va_up (va_up (va_up (mFS S 4) 0 (FP.fadd (mFS S 4 0) dx)) 1 (FP.fadd (mFS S 4 1) dy)) 2 (FP.fadd (mFS S 4 2) dz)) 3 (FP.fadd (mFS S 4 3) dx))))) hx hb hw hT hS 10 4 (by decide) (f := va_up (va_up (va_up (mFS S 4) 0 (FP.fadd (mFS S 4 0) dx)) 1 (FP.fadd (mFS S 4 1) dy)) 2 (FP.fadd (mFS S 4 2) dz)) rfl 3 (by decide) (by decide) (mup2_mF G S 4 _ (va_up (va_up (va_up (va_up (mFS S 4) 0 (FP.fadd (mFS S 4 0) dx)) 1 (FP.fadd (mFS S 4 1) dy)) 2 (FP.fadd (mFS S 4 2) dz)) 3 (FP.fadd (mFS S 4 3) dx))) dX4_goesOn_55 (fun H locs hw hS => ?_)
        have K14 : ∀ (b9 : Bool) (H : Heap) (locs : List Loc), b9 = (((goF (FP.fadd (mFS S 4 0) dx) && goF (FP.fadd (mFS S 4 1) dy)) && goF (FP.fadd (mFS S 4 2) dz)) && goF (FP.fadd (mFS S 4 3) dx)) → wdM G (mFU S (va_up (mFS S) 4 (va_up (va_up (va_up (va_up (mFS S 4) 0 (FP.fadd (mFS S 4 0) dx)) 1 (FP.fadd (mFS S 4 1) dy)) 2 (FP.fadd (mFS S 4 2) dz)) 3 (FP.fadd (mFS S 4 3) dx)))) H s → va_S (g_A G) s.heap H locs → W p l e ({ frames := 1, cells := 0, slots := 0, locals := 20 } : Room) s m ([.ref (g_ad G 9 0), .float dx, .float dy, .float dz] : List Value).toArray below meth c H locs 0 0 (MQ below (Qi G (bI (gnF (mFS S 4) dx dy dz)) (gnS S dx dy dz)) ([.ref (g_ad G 9 0), .float dx, .float dy, .float dz] : List Value).toArray s ({ frames := 1, cells := 0, slots := 0, locals := 20 } : Room).cells ({ frames := 1, cells := 0, slots := 0, locals := 20 } : Room).slots (g_A G)) (F0 m 79 ls [.int (bI b9)]) := by
          intro b9 H locs hb9 hw hS
          subst hb9
          refine lv_istore (lv' := [(4, .int (bI (((goF (FP.fadd (mFS S 4 0) dx) && goF (FP.fadd (mFS S 4 1) dy)) && goF (FP.fadd (mFS S 4 2) dz)) && goF (FP.fadd (mFS S 4 3) dx)))), (6, .float dx), (5, .int (nI 3)), (0, .ref (g_ad G 9 0)), (1, .float dx), (2, .float dy), (3, .float dz)]) hx hb dX4_goesOn_79 hl (by decide) rfl (fun ls hl => ?_)
          refine lv_iinc (v := nI 4) (lv' := [(5, .int (nI 4)), (4, .int (bI (((goF (FP.fadd (mFS S 4 0) dx) && goF (FP.fadd (mFS S 4 1) dy)) && goF (FP.fadd (mFS S 4 2) dz)) && goF (FP.fadd (mFS S 4 3) dx)))), (6, .float dx), (0, .ref (g_ad G 9 0)), (1, .float dx), (2, .float dy), (3, .float dz)]) hx hb dX4_goesOn_81 hl (k := 2) rfl (by decide) (by decide) rfl (fun ls hl => ?_)
          refine lv_goto (tgt := 6) hx hb dX4_goesOn_84 (by decide) ?_
          refine lv_iload hx hb dX4_goesOn_6 (lv_at hl 0 rfl) ?_
          refine lv_bipush (v := nI 6) hx hb dX4_goesOn_8 (by decide) ?_
          refine lv_icmp_ge (tgt := 87) hx hb dX4_goesOn_10 (by decide) (fun q => absurd q (by decide)) (fun _ => ?_)
          refine lv_iload hx hb dX4_goesOn_13 (lv_at hl 0 rfl) ?_
          refine lv_iconst (v := nI 3) hx hb dX4_goesOn_15 (by decide) ?_
          refine lv_irem hx hb dX4_goesOn_16 (by decide) ?_
          refine top_i (y := nI 1) (by decide) ?_
          refine lv_if_ne (tgt := 24) hx hb dX4_goesOn_17 (by decide) (fun _ => ?_) (fun q => absurd q (by decide))
          refine lv_iload hx hb dX4_goesOn_24 (lv_at hl 0 rfl) ?_
          refine lv_iconst (v := nI 3) hx hb dX4_goesOn_26 (by decide) ?_
          refine lv_irem hx hb dX4_goesOn_27 (by decide) ?_
          refine top_i (y := nI 1) (by decide) ?_
          refine lv_iconst (v := nI 1) hx hb dX4_goesOn_28 (by decide) ?_
          refine lv_icmp_ne (tgt := 36) hx hb dX4_goesOn_29 (by decide) (fun q => absurd (by decide) q) (fun _ => ?_)
          refine lv_fload_n hx hb dX4_goesOn_32 rfl (lv_at hl 5 rfl) ?_
          refine lv_goto (tgt := 37) hx hb dX4_goesOn_33 (by decide) ?_
          refine lv_fstore (lv' := [(6, .float dy), (5, .int (nI 4)), (4, .int (bI (((goF (FP.fadd (mFS S 4 0) dx) && goF (FP.fadd (mFS S 4 1) dy)) && goF (FP.fadd (mFS S 4 2) dz)) && goF (FP.fadd (mFS S 4 3) dx)))), (0, .ref (g_ad G 9 0)), (1, .float dx), (2, .float dy), (3, .float dz)]) hx hb dX4_goesOn_37 hl (by decide) rfl (fun ls hl => ?_)
          refine lv_aload_n hx hb dX4_goesOn_39 rfl (lv_at hl 3 rfl) ?_
          refine gf hx hb hown hts hw hT 9 0 (by decide) (ci := 4) rfl rfl (fun _ h => List.mem_cons_of_mem _ (List.mem_append_right _ h)) 16 (by decide) (List.mem_of_getElem? (i := 1) rfl) (v := .ref (g_ad G 10 4)) rfl dX4_goesOn_40 ?_
          refine lv_iload hx hb dX4_goesOn_43 (lv_at hl 1 rfl) ?_
          refine lv_aload_n hx hb dX4_goesOn_45 rfl (lv_at hl 3 rfl) ?_
          refine gf hx hb hown hts hw hT 9 0 (by decide) (ci := 4) rfl rfl (fun _ h => List.mem_cons_of_mem _ (List.mem_append_right _ h)) 16 (by decide) (List.mem_of_getElem? (i := 1) rfl) (v := .ref (g_ad G 10 4)) rfl dX4_goesOn_46 ?_
          refine lv_iload hx hb dX4_goesOn_49 (lv_at hl 1 rfl) ?_
          refine afl hx hb hw hT 10 4 (by decide) (f := va_up (va_up (va_up (va_up (mFS S 4) 0 (FP.fadd (mFS S 4 0) dx)) 1 (FP.fadd (mFS S 4 1) dy)) 2 (FP.fadd (mFS S 4 2) dz)) 3 (FP.fadd (mFS S 4 3) dx)) rfl 4 (by decide) (by decide) dX4_goesOn_51 ?_
          refine top_f (y := mFS S 4 4) rfl ?_
          refine lv_fload hx hb dX4_goesOn_52 (lv_at hl 0 rfl) ?_
          refine lv_fadd hx hb dX4_goesOn_54 hn.2.2.2.2.1 ?_
          refine afs (S' := (mFU S (va_up (mFS S) 4 (va_up (va_up (va_up (va_up (va_up (mFS S 4) 0 (FP.fadd (mFS S 4 0) dx)) 1 (FP.fadd (mFS S 4 1) dy)) 2 (FP.fadd (mFS S 4 2) dz)) 3 (FP.fadd (mFS S 4 3) dx)) 4 (FP.fadd (mFS S 4 4) dy))))) hx hb hw hT hS 10 4 (by decide) (f := va_up (va_up (va_up (va_up (mFS S 4) 0 (FP.fadd (mFS S 4 0) dx)) 1 (FP.fadd (mFS S 4 1) dy)) 2 (FP.fadd (mFS S 4 2) dz)) 3 (FP.fadd (mFS S 4 3) dx)) rfl 4 (by decide) (by decide) (mup2_mF G S 4 _ (va_up (va_up (va_up (va_up (va_up (mFS S 4) 0 (FP.fadd (mFS S 4 0) dx)) 1 (FP.fadd (mFS S 4 1) dy)) 2 (FP.fadd (mFS S 4 2) dz)) 3 (FP.fadd (mFS S 4 3) dx)) 4 (FP.fadd (mFS S 4 4) dy))) dX4_goesOn_55 (fun H locs hw hS => ?_)
          have K18 : ∀ (b9 : Bool) (H : Heap) (locs : List Loc), b9 = ((((goF (FP.fadd (mFS S 4 0) dx) && goF (FP.fadd (mFS S 4 1) dy)) && goF (FP.fadd (mFS S 4 2) dz)) && goF (FP.fadd (mFS S 4 3) dx)) && goF (FP.fadd (mFS S 4 4) dy)) → wdM G (mFU S (va_up (mFS S) 4 (va_up (va_up (va_up (va_up (va_up (mFS S 4) 0 (FP.fadd (mFS S 4 0) dx)) 1 (FP.fadd (mFS S 4 1) dy)) 2 (FP.fadd (mFS S 4 2) dz)) 3 (FP.fadd (mFS S 4 3) dx)) 4 (FP.fadd (mFS S 4 4) dy)))) H s → va_S (g_A G) s.heap H locs → W p l e ({ frames := 1, cells := 0, slots := 0, locals := 20 } : Room) s m ([.ref (g_ad G 9 0), .float dx, .float dy, .float dz] : List Value).toArray below meth c H locs 0 0 (MQ below (Qi G (bI (gnF (mFS S 4) dx dy dz)) (gnS S dx dy dz)) ([.ref (g_ad G 9 0), .float dx, .float dy, .float dz] : List Value).toArray s ({ frames := 1, cells := 0, slots := 0, locals := 20 } : Room).cells ({ frames := 1, cells := 0, slots := 0, locals := 20 } : Room).slots (g_A G)) (F0 m 79 ls [.int (bI b9)]) := by
            intro b9 H locs hb9 hw hS
            subst hb9
            refine lv_istore (lv' := [(4, .int (bI ((((goF (FP.fadd (mFS S 4 0) dx) && goF (FP.fadd (mFS S 4 1) dy)) && goF (FP.fadd (mFS S 4 2) dz)) && goF (FP.fadd (mFS S 4 3) dx)) && goF (FP.fadd (mFS S 4 4) dy)))), (6, .float dy), (5, .int (nI 4)), (0, .ref (g_ad G 9 0)), (1, .float dx), (2, .float dy), (3, .float dz)]) hx hb dX4_goesOn_79 hl (by decide) rfl (fun ls hl => ?_)
            refine lv_iinc (v := nI 5) (lv' := [(5, .int (nI 5)), (4, .int (bI ((((goF (FP.fadd (mFS S 4 0) dx) && goF (FP.fadd (mFS S 4 1) dy)) && goF (FP.fadd (mFS S 4 2) dz)) && goF (FP.fadd (mFS S 4 3) dx)) && goF (FP.fadd (mFS S 4 4) dy)))), (6, .float dy), (0, .ref (g_ad G 9 0)), (1, .float dx), (2, .float dy), (3, .float dz)]) hx hb dX4_goesOn_81 hl (k := 2) rfl (by decide) (by decide) rfl (fun ls hl => ?_)
            refine lv_goto (tgt := 6) hx hb dX4_goesOn_84 (by decide) ?_
            refine lv_iload hx hb dX4_goesOn_6 (lv_at hl 0 rfl) ?_
            refine lv_bipush (v := nI 6) hx hb dX4_goesOn_8 (by decide) ?_
            refine lv_icmp_ge (tgt := 87) hx hb dX4_goesOn_10 (by decide) (fun q => absurd q (by decide)) (fun _ => ?_)
            refine lv_iload hx hb dX4_goesOn_13 (lv_at hl 0 rfl) ?_
            refine lv_iconst (v := nI 3) hx hb dX4_goesOn_15 (by decide) ?_
            refine lv_irem hx hb dX4_goesOn_16 (by decide) ?_
            refine top_i (y := nI 2) (by decide) ?_
            refine lv_if_ne (tgt := 24) hx hb dX4_goesOn_17 (by decide) (fun _ => ?_) (fun q => absurd q (by decide))
            refine lv_iload hx hb dX4_goesOn_24 (lv_at hl 0 rfl) ?_
            refine lv_iconst (v := nI 3) hx hb dX4_goesOn_26 (by decide) ?_
            refine lv_irem hx hb dX4_goesOn_27 (by decide) ?_
            refine top_i (y := nI 2) (by decide) ?_
            refine lv_iconst (v := nI 1) hx hb dX4_goesOn_28 (by decide) ?_
            refine lv_icmp_ne (tgt := 36) hx hb dX4_goesOn_29 (by decide) (fun _ => ?_) (fun q => absurd q (by decide))
            refine lv_fload_n hx hb dX4_goesOn_36 rfl (lv_at hl 6 rfl) ?_
            refine lv_fstore (lv' := [(6, .float dz), (5, .int (nI 5)), (4, .int (bI ((((goF (FP.fadd (mFS S 4 0) dx) && goF (FP.fadd (mFS S 4 1) dy)) && goF (FP.fadd (mFS S 4 2) dz)) && goF (FP.fadd (mFS S 4 3) dx)) && goF (FP.fadd (mFS S 4 4) dy)))), (0, .ref (g_ad G 9 0)), (1, .float dx), (2, .float dy), (3, .float dz)]) hx hb dX4_goesOn_37 hl (by decide) rfl (fun ls hl => ?_)
            refine lv_aload_n hx hb dX4_goesOn_39 rfl (lv_at hl 3 rfl) ?_
            refine gf hx hb hown hts hw hT 9 0 (by decide) (ci := 4) rfl rfl (fun _ h => List.mem_cons_of_mem _ (List.mem_append_right _ h)) 16 (by decide) (List.mem_of_getElem? (i := 1) rfl) (v := .ref (g_ad G 10 4)) rfl dX4_goesOn_40 ?_
            refine lv_iload hx hb dX4_goesOn_43 (lv_at hl 1 rfl) ?_
            refine lv_aload_n hx hb dX4_goesOn_45 rfl (lv_at hl 3 rfl) ?_
            refine gf hx hb hown hts hw hT 9 0 (by decide) (ci := 4) rfl rfl (fun _ h => List.mem_cons_of_mem _ (List.mem_append_right _ h)) 16 (by decide) (List.mem_of_getElem? (i := 1) rfl) (v := .ref (g_ad G 10 4)) rfl dX4_goesOn_46 ?_
            refine lv_iload hx hb dX4_goesOn_49 (lv_at hl 1 rfl) ?_
            refine afl hx hb hw hT 10 4 (by decide) (f := va_up (va_up (va_up (va_up (va_up (mFS S 4) 0 (FP.fadd (mFS S 4 0) dx)) 1 (FP.fadd (mFS S 4 1) dy)) 2 (FP.fadd (mFS S 4 2) dz)) 3 (FP.fadd (mFS S 4 3) dx)) 4 (FP.fadd (mFS S 4 4) dy)) rfl 5 (by decide) (by decide) dX4_goesOn_51 ?_
            refine top_f (y := mFS S 4 5) rfl ?_
            refine lv_fload hx hb dX4_goesOn_52 (lv_at hl 0 rfl) ?_
            refine lv_fadd hx hb dX4_goesOn_54 hn.2.2.2.2.2 ?_
            refine afs (S' := (mFU S (va_up (mFS S) 4 (va_up (va_up (va_up (va_up (va_up (va_up (mFS S 4) 0 (FP.fadd (mFS S 4 0) dx)) 1 (FP.fadd (mFS S 4 1) dy)) 2 (FP.fadd (mFS S 4 2) dz)) 3 (FP.fadd (mFS S 4 3) dx)) 4 (FP.fadd (mFS S 4 4) dy)) 5 (FP.fadd (mFS S 4 5) dz))))) hx hb hw hT hS 10 4 (by decide) (f := va_up (va_up (va_up (va_up (va_up (mFS S 4) 0 (FP.fadd (mFS S 4 0) dx)) 1 (FP.fadd (mFS S 4 1) dy)) 2 (FP.fadd (mFS S 4 2) dz)) 3 (FP.fadd (mFS S 4 3) dx)) 4 (FP.fadd (mFS S 4 4) dy)) rfl 5 (by decide) (by decide) (mup2_mF G S 4 _ (va_up (va_up (va_up (va_up (va_up (va_up (mFS S 4) 0 (FP.fadd (mFS S 4 0) dx)) 1 (FP.fadd (mFS S 4 1) dy)) 2 (FP.fadd (mFS S 4 2) dz)) 3 (FP.fadd (mFS S 4 3) dx)) 4 (FP.fadd (mFS S 4 4) dy)) 5 (FP.fadd (mFS S 4 5) dz))) dX4_goesOn_55 (fun H locs hw hS => ?_)
            have K22 : ∀ (b9 : Bool) (H : Heap) (locs : List Loc), b9 = (((((goF (FP.fadd (mFS S 4 0) dx) && goF (FP.fadd (mFS S 4 1) dy)) && goF (FP.fadd (mFS S 4 2) dz)) && goF (FP.fadd (mFS S 4 3) dx)) && goF (FP.fadd (mFS S 4 4) dy)) && goF (FP.fadd (mFS S 4 5) dz)) → wdM G (mFU S (va_up (mFS S) 4 (va_up (va_up (va_up (va_up (va_up (va_up (mFS S 4) 0 (FP.fadd (mFS S 4 0) dx)) 1 (FP.fadd (mFS S 4 1) dy)) 2 (FP.fadd (mFS S 4 2) dz)) 3 (FP.fadd (mFS S 4 3) dx)) 4 (FP.fadd (mFS S 4 4) dy)) 5 (FP.fadd (mFS S 4 5) dz)))) H s → va_S (g_A G) s.heap H locs → W p l e ({ frames := 1, cells := 0, slots := 0, locals := 20 } : Room) s m ([.ref (g_ad G 9 0), .float dx, .float dy, .float dz] : List Value).toArray below meth c H locs 0 0 (MQ below (Qi G (bI (gnF (mFS S 4) dx dy dz)) (gnS S dx dy dz)) ([.ref (g_ad G 9 0), .float dx, .float dy, .float dz] : List Value).toArray s ({ frames := 1, cells := 0, slots := 0, locals := 20 } : Room).cells ({ frames := 1, cells := 0, slots := 0, locals := 20 } : Room).slots (g_A G)) (F0 m 79 ls [.int (bI b9)]) := by
              intro b9 H locs hb9 hw hS
              subst hb9
              refine lv_istore (lv' := [(4, .int (bI (((((goF (FP.fadd (mFS S 4 0) dx) && goF (FP.fadd (mFS S 4 1) dy)) && goF (FP.fadd (mFS S 4 2) dz)) && goF (FP.fadd (mFS S 4 3) dx)) && goF (FP.fadd (mFS S 4 4) dy)) && goF (FP.fadd (mFS S 4 5) dz)))), (6, .float dz), (5, .int (nI 5)), (0, .ref (g_ad G 9 0)), (1, .float dx), (2, .float dy), (3, .float dz)]) hx hb dX4_goesOn_79 hl (by decide) rfl (fun ls hl => ?_)
              refine lv_iinc (v := nI 6) (lv' := [(5, .int (nI 6)), (4, .int (bI (((((goF (FP.fadd (mFS S 4 0) dx) && goF (FP.fadd (mFS S 4 1) dy)) && goF (FP.fadd (mFS S 4 2) dz)) && goF (FP.fadd (mFS S 4 3) dx)) && goF (FP.fadd (mFS S 4 4) dy)) && goF (FP.fadd (mFS S 4 5) dz)))), (6, .float dz), (0, .ref (g_ad G 9 0)), (1, .float dx), (2, .float dy), (3, .float dz)]) hx hb dX4_goesOn_81 hl (k := 2) rfl (by decide) (by decide) rfl (fun ls hl => ?_)
              refine lv_goto (tgt := 6) hx hb dX4_goesOn_84 (by decide) ?_
              refine lv_iload hx hb dX4_goesOn_6 (lv_at hl 0 rfl) ?_
              refine lv_bipush (v := nI 6) hx hb dX4_goesOn_8 (by decide) ?_
              refine lv_icmp_ge (tgt := 87) hx hb dX4_goesOn_10 (by decide) (fun _ => ?_) (fun q => absurd (by decide) q)
              refine lv_iload hx hb dX4_goesOn_87 (lv_at hl 1 rfl) ?_
              exact ri hx hb hlk hr hw hS rfl (bI_nar _) (Nat.le_of_ble_eq_true rfl) (Nat.le_of_ble_eq_true rfl) dX4_goesOn_89
            refine lv_iload hx hb dX4_goesOn_56 (lv_at hl 2 rfl) ?_
            refine lv_if_eq (tgt := 78) hx hb dX4_goesOn_58 (by decide) (fun h24 => ?_) (fun h24 => ?_)
            · skip
              have h24 := bI_0.mp h24
              refine lv_iconst (v := nI 0) hx hb dX4_goesOn_78 (by decide) ?_
              refine top_i (y := bI false) (by decide) ?_
              exact K22 false _ _ (by first | (simp only [h24, Bool.true_and, Bool.false_and, Bool.and_true, Bool.and_false]; done) | simp [h24]) hw hS
            · skip
              have h24 := bI_n0.mp h24
              refine lv_aload_n hx hb dX4_goesOn_61 rfl (lv_at hl 3 rfl) ?_
              refine gf hx hb hown hts hw hT 9 0 (by decide) (ci := 4) rfl rfl (fun _ h => List.mem_cons_of_mem _ (List.mem_append_right _ h)) 16 (by decide) (List.mem_of_getElem? (i := 1) rfl) (v := .ref (g_ad G 10 4)) rfl dX4_goesOn_62 ?_
              refine lv_iload hx hb dX4_goesOn_65 (lv_at hl 1 rfl) ?_
              refine afl hx hb hw hT 10 4 (by decide) (f := va_up (va_up (va_up (va_up (va_up (va_up (mFS S 4) 0 (FP.fadd (mFS S 4 0) dx)) 1 (FP.fadd (mFS S 4 1) dy)) 2 (FP.fadd (mFS S 4 2) dz)) 3 (FP.fadd (mFS S 4 3) dx)) 4 (FP.fadd (mFS S 4 4) dy)) 5 (FP.fadd (mFS S 4 5) dz)) rfl 5 (by decide) (by decide) dX4_goesOn_67 ?_
              refine top_f (y := FP.fadd (mFS S 4 5) dz) rfl ?_
              refine cSi ⟨hx, hb, hml, hown, hts⟩ (m_good l G (mFU S (va_up (mFS S) 4 (va_up (va_up (va_up (va_up (va_up (va_up (mFS S 4) 0 (FP.fadd (mFS S 4 0) dx)) 1 (FP.fadd (mFS S 4 1) dy)) 2 (FP.fadd (mFS S 4 2) dz)) 3 (FP.fadd (mFS S 4 3) dx)) 4 (FP.fadd (mFS S 4 4) dy)) 5 (FP.fadd (mFS S 4 5) dz)))) (FP.fadd (mFS S 4 5) dz)) (va_cwS 1 hts gX4_goesOn_X4_good rfl rfl rfl (by decide +kernel) ⟨(Nat.le_of_ble_eq_true rfl), (Nat.le_of_ble_eq_true rfl)⟩) hw hT hS (As := [.float (FP.fadd (mFS S 4 5) dz)]) (rest := []) rfl hl.1 rfl (Nat.le_of_ble_eq_true rfl) dX4_goesOn_68 ⟨(Nat.le_of_ble_eq_true rfl), (Nat.le_of_ble_eq_true rfl)⟩ (fun H locs hw hS => ?_)
              refine lv_if_eq (tgt := 78) hx hb dX4_goesOn_71 (by decide) (fun h25 => ?_) (fun h25 => ?_)
              · skip
                have h25 := bI_0.mp h25
                refine lv_iconst (v := nI 0) hx hb dX4_goesOn_78 (by decide) ?_
                refine top_i (y := bI false) (by decide) ?_
                exact K22 false _ _ (by first | (simp only [h24, h25, Bool.true_and, Bool.false_and, Bool.and_true, Bool.and_false]; done) | simp [h24, h25]) hw hS
              · skip
                have h25 := bI_n0.mp h25
                refine lv_iconst (v := nI 1) hx hb dX4_goesOn_74 (by decide) ?_
                refine lv_goto (tgt := 79) hx hb dX4_goesOn_75 (by decide) ?_
                refine top_i (y := bI true) (by decide) ?_
                exact K22 true _ _ (by first | (simp only [h24, h25, Bool.true_and, Bool.false_and, Bool.and_true, Bool.and_false]; done) | simp [h24, h25]) hw hS
          refine lv_iload hx hb dX4_goesOn_56 (lv_at hl 2 rfl) ?_
          refine lv_if_eq (tgt := 78) hx hb dX4_goesOn_58 (by decide) (fun h26 => ?_) (fun h26 => ?_)
          · skip
            have h26 := bI_0.mp h26
            refine lv_iconst (v := nI 0) hx hb dX4_goesOn_78 (by decide) ?_
            refine top_i (y := bI false) (by decide) ?_
            exact K18 false _ _ (by first | (simp only [h26, Bool.true_and, Bool.false_and, Bool.and_true, Bool.and_false]; done) | simp [h26]) hw hS
          · skip
            have h26 := bI_n0.mp h26
            refine lv_aload_n hx hb dX4_goesOn_61 rfl (lv_at hl 3 rfl) ?_
            refine gf hx hb hown hts hw hT 9 0 (by decide) (ci := 4) rfl rfl (fun _ h => List.mem_cons_of_mem _ (List.mem_append_right _ h)) 16 (by decide) (List.mem_of_getElem? (i := 1) rfl) (v := .ref (g_ad G 10 4)) rfl dX4_goesOn_62 ?_
            refine lv_iload hx hb dX4_goesOn_65 (lv_at hl 1 rfl) ?_
            refine afl hx hb hw hT 10 4 (by decide) (f := va_up (va_up (va_up (va_up (va_up (mFS S 4) 0 (FP.fadd (mFS S 4 0) dx)) 1 (FP.fadd (mFS S 4 1) dy)) 2 (FP.fadd (mFS S 4 2) dz)) 3 (FP.fadd (mFS S 4 3) dx)) 4 (FP.fadd (mFS S 4 4) dy)) rfl 4 (by decide) (by decide) dX4_goesOn_67 ?_
            refine top_f (y := FP.fadd (mFS S 4 4) dy) rfl ?_
            refine cSi ⟨hx, hb, hml, hown, hts⟩ (m_good l G (mFU S (va_up (mFS S) 4 (va_up (va_up (va_up (va_up (va_up (mFS S 4) 0 (FP.fadd (mFS S 4 0) dx)) 1 (FP.fadd (mFS S 4 1) dy)) 2 (FP.fadd (mFS S 4 2) dz)) 3 (FP.fadd (mFS S 4 3) dx)) 4 (FP.fadd (mFS S 4 4) dy)))) (FP.fadd (mFS S 4 4) dy)) (va_cwS 1 hts gX4_goesOn_X4_good rfl rfl rfl (by decide +kernel) ⟨(Nat.le_of_ble_eq_true rfl), (Nat.le_of_ble_eq_true rfl)⟩) hw hT hS (As := [.float (FP.fadd (mFS S 4 4) dy)]) (rest := []) rfl hl.1 rfl (Nat.le_of_ble_eq_true rfl) dX4_goesOn_68 ⟨(Nat.le_of_ble_eq_true rfl), (Nat.le_of_ble_eq_true rfl)⟩ (fun H locs hw hS => ?_)
            refine lv_if_eq (tgt := 78) hx hb dX4_goesOn_71 (by decide) (fun h27 => ?_) (fun h27 => ?_)
            · skip
              have h27 := bI_0.mp h27
              refine lv_iconst (v := nI 0) hx hb dX4_goesOn_78 (by decide) ?_
              refine top_i (y := bI false) (by decide) ?_
              exact K18 false _ _ (by first | (simp only [h26, h27, Bool.true_and, Bool.false_and, Bool.and_true, Bool.and_false]; done) | simp [h26, h27]) hw hS
            · skip
              have h27 := bI_n0.mp h27
              refine lv_iconst (v := nI 1) hx hb dX4_goesOn_74 (by decide) ?_
              refine lv_goto (tgt := 79) hx hb dX4_goesOn_75 (by decide) ?_
              refine top_i (y := bI true) (by decide) ?_
              exact K18 true _ _ (by first | (simp only [h26, h27, Bool.true_and, Bool.false_and, Bool.and_true, Bool.and_false]; done) | simp [h26, h27]) hw hS
        refine lv_iload hx hb dX4_goesOn_56 (lv_at hl 2 rfl) ?_
        refine lv_if_eq (tgt := 78) hx hb dX4_goesOn_58 (by decide) (fun h28 => ?_) (fun h28 => ?_)
        · skip
          have h28 := bI_0.mp h28
          refine lv_iconst (v := nI 0) hx hb dX4_goesOn_78 (by decide) ?_
          refine top_i (y := bI false) (by decide) ?_
          exact K14 false _ _ (by first | (simp only [h28, Bool.true_and, Bool.false_and, Bool.and_true, Bool.and_false]; done) | simp [h28]) hw hS
        · skip
          have h28 := bI_n0.mp h28
          refine lv_aload_n hx hb dX4_goesOn_61 rfl (lv_at hl 3 rfl) ?_
          refine gf hx hb hown hts hw hT 9 0 (by decide) (ci := 4) rfl rfl (fun _ h => List.mem_cons_of_mem _ (List.mem_append_right _ h)) 16 (by decide) (List.mem_of_getElem? (i := 1) rfl) (v := .ref (g_ad G 10 4)) rfl dX4_goesOn_62 ?_
          refine lv_iload hx hb dX4_goesOn_65 (lv_at hl 1 rfl) ?_
          refine afl hx hb hw hT 10 4 (by decide) (f := va_up (va_up (va_up (va_up (mFS S 4) 0 (FP.fadd (mFS S 4 0) dx)) 1 (FP.fadd (mFS S 4 1) dy)) 2 (FP.fadd (mFS S 4 2) dz)) 3 (FP.fadd (mFS S 4 3) dx)) rfl 3 (by decide) (by decide) dX4_goesOn_67 ?_
          refine top_f (y := FP.fadd (mFS S 4 3) dx) rfl ?_
          refine cSi ⟨hx, hb, hml, hown, hts⟩ (m_good l G (mFU S (va_up (mFS S) 4 (va_up (va_up (va_up (va_up (mFS S 4) 0 (FP.fadd (mFS S 4 0) dx)) 1 (FP.fadd (mFS S 4 1) dy)) 2 (FP.fadd (mFS S 4 2) dz)) 3 (FP.fadd (mFS S 4 3) dx)))) (FP.fadd (mFS S 4 3) dx)) (va_cwS 1 hts gX4_goesOn_X4_good rfl rfl rfl (by decide +kernel) ⟨(Nat.le_of_ble_eq_true rfl), (Nat.le_of_ble_eq_true rfl)⟩) hw hT hS (As := [.float (FP.fadd (mFS S 4 3) dx)]) (rest := []) rfl hl.1 rfl (Nat.le_of_ble_eq_true rfl) dX4_goesOn_68 ⟨(Nat.le_of_ble_eq_true rfl), (Nat.le_of_ble_eq_true rfl)⟩ (fun H locs hw hS => ?_)
          refine lv_if_eq (tgt := 78) hx hb dX4_goesOn_71 (by decide) (fun h29 => ?_) (fun h29 => ?_)
          · skip
            have h29 := bI_0.mp h29
            refine lv_iconst (v := nI 0) hx hb dX4_goesOn_78 (by decide) ?_
            refine top_i (y := bI false) (by decide) ?_
            exact K14 false _ _ (by first | (simp only [h28, h29, Bool.true_and, Bool.false_and, Bool.and_true, Bool.and_false]; done) | simp [h28, h29]) hw hS
          · skip
            have h29 := bI_n0.mp h29
            refine lv_iconst (v := nI 1) hx hb dX4_goesOn_74 (by decide) ?_
            refine lv_goto (tgt := 79) hx hb dX4_goesOn_75 (by decide) ?_
            refine top_i (y := bI true) (by decide) ?_
            exact K14 true _ _ (by first | (simp only [h28, h29, Bool.true_and, Bool.false_and, Bool.and_true, Bool.and_false]; done) | simp [h28, h29]) hw hS
      refine lv_iload hx hb dX4_goesOn_56 (lv_at hl 2 rfl) ?_
      refine lv_if_eq (tgt := 78) hx hb dX4_goesOn_58 (by decide) (fun h30 => ?_) (fun h30 => ?_)
      · skip
        have h30 := bI_0.mp h30
        refine lv_iconst (v := nI 0) hx hb dX4_goesOn_78 (by decide) ?_
        refine top_i (y := bI false) (by decide) ?_
        exact K11 false _ _ (by first | (simp only [h30, Bool.true_and, Bool.false_and, Bool.and_true, Bool.and_false]; done) | simp [h30]) hw hS
      · skip
        have h30 := bI_n0.mp h30
        refine lv_aload_n hx hb dX4_goesOn_61 rfl (lv_at hl 3 rfl) ?_
        refine gf hx hb hown hts hw hT 9 0 (by decide) (ci := 4) rfl rfl (fun _ h => List.mem_cons_of_mem _ (List.mem_append_right _ h)) 16 (by decide) (List.mem_of_getElem? (i := 1) rfl) (v := .ref (g_ad G 10 4)) rfl dX4_goesOn_62 ?_
        refine lv_iload hx hb dX4_goesOn_65 (lv_at hl 1 rfl) ?_
        refine afl hx hb hw hT 10 4 (by decide) (f := va_up (va_up (va_up (mFS S 4) 0 (FP.fadd (mFS S 4 0) dx)) 1 (FP.fadd (mFS S 4 1) dy)) 2 (FP.fadd (mFS S 4 2) dz)) rfl 2 (by decide) (by decide) dX4_goesOn_67 ?_
        refine top_f (y := FP.fadd (mFS S 4 2) dz) rfl ?_
        refine cSi ⟨hx, hb, hml, hown, hts⟩ (m_good l G (mFU S (va_up (mFS S) 4 (va_up (va_up (va_up (mFS S 4) 0 (FP.fadd (mFS S 4 0) dx)) 1 (FP.fadd (mFS S 4 1) dy)) 2 (FP.fadd (mFS S 4 2) dz)))) (FP.fadd (mFS S 4 2) dz)) (va_cwS 1 hts gX4_goesOn_X4_good rfl rfl rfl (by decide +kernel) ⟨(Nat.le_of_ble_eq_true rfl), (Nat.le_of_ble_eq_true rfl)⟩) hw hT hS (As := [.float (FP.fadd (mFS S 4 2) dz)]) (rest := []) rfl hl.1 rfl (Nat.le_of_ble_eq_true rfl) dX4_goesOn_68 ⟨(Nat.le_of_ble_eq_true rfl), (Nat.le_of_ble_eq_true rfl)⟩ (fun H locs hw hS => ?_)
        refine lv_if_eq (tgt := 78) hx hb dX4_goesOn_71 (by decide) (fun h31 => ?_) (fun h31 => ?_)
        · skip
          have h31 := bI_0.mp h31
          refine lv_iconst (v := nI 0) hx hb dX4_goesOn_78 (by decide) ?_
          refine top_i (y := bI false) (by decide) ?_
          exact K11 false _ _ (by first | (simp only [h30, h31, Bool.true_and, Bool.false_and, Bool.and_true, Bool.and_false]; done) | simp [h30, h31]) hw hS
        · skip
          have h31 := bI_n0.mp h31
          refine lv_iconst (v := nI 1) hx hb dX4_goesOn_74 (by decide) ?_
          refine lv_goto (tgt := 79) hx hb dX4_goesOn_75 (by decide) ?_
          refine top_i (y := bI true) (by decide) ?_
          exact K11 true _ _ (by first | (simp only [h30, h31, Bool.true_and, Bool.false_and, Bool.and_true, Bool.and_false]; done) | simp [h30, h31]) hw hS
    refine lv_iload hx hb dX4_goesOn_56 (lv_at hl 2 rfl) ?_
    refine lv_if_eq (tgt := 78) hx hb dX4_goesOn_58 (by decide) (fun h32 => ?_) (fun h32 => ?_)
    · skip
      have h32 := bI_0.mp h32
      refine lv_iconst (v := nI 0) hx hb dX4_goesOn_78 (by decide) ?_
      refine top_i (y := bI false) (by decide) ?_
      exact K7 false _ _ (by first | (simp only [h32, Bool.true_and, Bool.false_and, Bool.and_true, Bool.and_false]; done) | simp [h32]) hw hS
    · skip
      have h32 := bI_n0.mp h32
      refine lv_aload_n hx hb dX4_goesOn_61 rfl (lv_at hl 3 rfl) ?_
      refine gf hx hb hown hts hw hT 9 0 (by decide) (ci := 4) rfl rfl (fun _ h => List.mem_cons_of_mem _ (List.mem_append_right _ h)) 16 (by decide) (List.mem_of_getElem? (i := 1) rfl) (v := .ref (g_ad G 10 4)) rfl dX4_goesOn_62 ?_
      refine lv_iload hx hb dX4_goesOn_65 (lv_at hl 1 rfl) ?_
      refine afl hx hb hw hT 10 4 (by decide) (f := va_up (va_up (mFS S 4) 0 (FP.fadd (mFS S 4 0) dx)) 1 (FP.fadd (mFS S 4 1) dy)) rfl 1 (by decide) (by decide) dX4_goesOn_67 ?_
      refine top_f (y := FP.fadd (mFS S 4 1) dy) rfl ?_
      refine cSi ⟨hx, hb, hml, hown, hts⟩ (m_good l G (mFU S (va_up (mFS S) 4 (va_up (va_up (mFS S 4) 0 (FP.fadd (mFS S 4 0) dx)) 1 (FP.fadd (mFS S 4 1) dy)))) (FP.fadd (mFS S 4 1) dy)) (va_cwS 1 hts gX4_goesOn_X4_good rfl rfl rfl (by decide +kernel) ⟨(Nat.le_of_ble_eq_true rfl), (Nat.le_of_ble_eq_true rfl)⟩) hw hT hS (As := [.float (FP.fadd (mFS S 4 1) dy)]) (rest := []) rfl hl.1 rfl (Nat.le_of_ble_eq_true rfl) dX4_goesOn_68 ⟨(Nat.le_of_ble_eq_true rfl), (Nat.le_of_ble_eq_true rfl)⟩ (fun H locs hw hS => ?_)
      refine lv_if_eq (tgt := 78) hx hb dX4_goesOn_71 (by decide) (fun h33 => ?_) (fun h33 => ?_)
      · skip
        have h33 := bI_0.mp h33
        refine lv_iconst (v := nI 0) hx hb dX4_goesOn_78 (by decide) ?_
        refine top_i (y := bI false) (by decide) ?_
        exact K7 false _ _ (by first | (simp only [h32, h33, Bool.true_and, Bool.false_and, Bool.and_true, Bool.and_false]; done) | simp [h32, h33]) hw hS
      · skip
        have h33 := bI_n0.mp h33
        refine lv_iconst (v := nI 1) hx hb dX4_goesOn_74 (by decide) ?_
        refine lv_goto (tgt := 79) hx hb dX4_goesOn_75 (by decide) ?_
        refine top_i (y := bI true) (by decide) ?_
        exact K7 true _ _ (by first | (simp only [h32, h33, Bool.true_and, Bool.false_and, Bool.and_true, Bool.and_false]; done) | simp [h32, h33]) hw hS
  refine lv_iload hx hb dX4_goesOn_56 (lv_at hl 2 rfl) ?_
  refine lv_if_eq (tgt := 78) hx hb dX4_goesOn_58 (by decide) (fun q => absurd q (by decide)) (fun _ => ?_)
  refine lv_aload_n hx hb dX4_goesOn_61 rfl (lv_at hl 3 rfl) ?_
  refine gf hx hb hown hts hw hT 9 0 (by decide) (ci := 4) rfl rfl (fun _ h => List.mem_cons_of_mem _ (List.mem_append_right _ h)) 16 (by decide) (List.mem_of_getElem? (i := 1) rfl) (v := .ref (g_ad G 10 4)) rfl dX4_goesOn_62 ?_
  refine lv_iload hx hb dX4_goesOn_65 (lv_at hl 1 rfl) ?_
  refine afl hx hb hw hT 10 4 (by decide) (f := va_up (mFS S 4) 0 (FP.fadd (mFS S 4 0) dx)) rfl 0 (by decide) (by decide) dX4_goesOn_67 ?_
  refine top_f (y := FP.fadd (mFS S 4 0) dx) rfl ?_
  refine cSi ⟨hx, hb, hml, hown, hts⟩ (m_good l G (mFU S (va_up (mFS S) 4 (va_up (mFS S 4) 0 (FP.fadd (mFS S 4 0) dx)))) (FP.fadd (mFS S 4 0) dx)) (va_cwS 1 hts gX4_goesOn_X4_good rfl rfl rfl (by decide +kernel) ⟨(Nat.le_of_ble_eq_true rfl), (Nat.le_of_ble_eq_true rfl)⟩) hw hT hS (As := [.float (FP.fadd (mFS S 4 0) dx)]) (rest := []) rfl hl.1 rfl (Nat.le_of_ble_eq_true rfl) dX4_goesOn_68 ⟨(Nat.le_of_ble_eq_true rfl), (Nat.le_of_ble_eq_true rfl)⟩ (fun H locs hw hS => ?_)
  refine lv_if_eq (tgt := 78) hx hb dX4_goesOn_71 (by decide) (fun h35 => ?_) (fun h35 => ?_)
  · skip
    have h35 := bI_0.mp h35
    refine lv_iconst (v := nI 0) hx hb dX4_goesOn_78 (by decide) ?_
    refine top_i (y := bI false) (by decide) ?_
    exact K3 false _ _ (by first | (simp only [h35, Bool.true_and, Bool.false_and, Bool.and_true, Bool.and_false]; done) | simp [h35]) hw hS
  · skip
    have h35 := bI_n0.mp h35
    refine lv_iconst (v := nI 1) hx hb dX4_goesOn_74 (by decide) ?_
    refine lv_goto (tgt := 79) hx hb dX4_goesOn_75 (by decide) ?_
    refine top_i (y := bI true) (by decide) ?_
    exact K3 true _ _ (by first | (simp only [h35, Bool.true_and, Bool.false_and, Bool.and_true, Bool.and_false]; done) | simp [h35]) hw hS
set_option maxRecDepth 100000 in
set_option maxHeartbeats 1000000 in
theorem m_bodies (l : Launch) (G : Gm) (S : St)  : Pi l yX4_bodies wsX4_bodies ({ frames := 0, cells := 0, slots := 0, locals := 0 } : Room) [.ref (g_ad G 9 0)] G S (nI (ctB (mZS S 0) 512)) S := by
  refine ent (cc := cX4_bodies) (maxL := 3) (ret := (some .int)) (by decide) rfl (Nat.le_of_ble_eq_true rfl) ?_
  intro p e s m below meth c ls C hw hT hS hl
  obtain ⟨hx, hb, hr, hml, hown, hts, hlk⟩ := C
  have hl : lv_has ls 3 [(0, .ref (g_ad G 9 0))] := hl
  refine lv_iconst (v := nI 0) hx hb dX4_bodies_0 (by decide) ?_
  refine lv_istore_n (lv' := [(1, .int (nI 0)), (0, .ref (g_ad G 9 0))]) hx hb dX4_bodies_1 rfl hl (by decide) rfl (fun ls hl => ?_)
  refine lv_iconst (v := nI 0) hx hb dX4_bodies_2 (by decide) ?_
  refine lv_istore_n (lv' := [(2, .int (nI 0)), (1, .int (nI 0)), (0, .ref (g_ad G 9 0))]) hx hb dX4_bodies_3 rfl hl (by decide) rfl (fun ls hl => ?_)
  have LOOP : ∀ (n o : Nat) (ac : Int32) (H : Heap) (locs : List Loc) (ls : Array Slot), o + n = 512 → (ac = nI (ctB (mZS S 0) o)) → wdM G S H s → va_S (g_A G) s.heap H locs → lv_has ls 3 [(2, .int (nI o)), (1, .int ac), (0, .ref (g_ad G 9 0))] → W p l e ({ frames := 0, cells := 0, slots := 0, locals := 0 } : Room) s m ([.ref (g_ad G 9 0)] : List Value).toArray below meth c H locs 0 0 (MQ below (Qi G (nI (ctB (mZS S 0) 512)) S) ([.ref (g_ad G 9 0)] : List Value).toArray s ({ frames := 0, cells := 0, slots := 0, locals := 0 } : Room).cells ({ frames := 0, cells := 0, slots := 0, locals := 0 } : Room).slots (g_A G)) (F0 m 4 ls []) := by
    intro n
    induction n with
    | zero =>
      intro o ac H locs ls hn ha9 hw hS hl
      obtain rfl : 512 = o := by omega
      refine lv_iload_n hx hb dX4_bodies_4 rfl (lv_at hl 0 rfl) ?_
      refine lv_sipush (v := nI 512) hx hb dX4_bodies_5 (by decide) ?_
      refine lv_icmp_ge (tgt := 34) hx hb dX4_bodies_8 (by decide) (fun _ => ?_) (fun q => absurd (by decide) q)
      refine lv_iload_n hx hb dX4_bodies_34 rfl (lv_at hl 1 rfl) ?_
      exact ri hx hb hlk hr hw hS ha9 (vp_nar_int _) (Nat.le_of_ble_eq_true rfl) (Nat.le_of_ble_eq_true rfl) dX4_bodies_35
    | succ n ih =>
      intro o ac H locs ls hn ha9 hw hS hl
      have ho : o < 512 := by omega
      refine lv_iload_n hx hb dX4_bodies_4 rfl (lv_at hl 0 rfl) ?_
      refine lv_sipush (v := nI 512) hx hb dX4_bodies_5 (by decide) ?_
      refine lv_icmp_ge (tgt := 34) hx hb dX4_bodies_8 (by decide) (fun q => absurd q (nI_ge ho (by decide))) (fun _ => ?_)
      refine lv_aload_n hx hb dX4_bodies_11 rfl (lv_at hl 2 rfl) ?_
      refine gf hx hb hown hts hw hT 9 0 (by decide) (ci := 4) rfl rfl (fun _ h => List.mem_cons_of_mem _ (List.mem_append_right _ h)) 2 (by decide) (List.mem_of_getElem? (i := 1) rfl) (v := .ref (g_ad G 12 0)) rfl dX4_bodies_12 ?_
      refine lv_iload_n hx hb dX4_bodies_15 rfl (lv_at hl 0 rfl) ?_
      refine azl hx hb hw hT 12 0 (by decide) (f := (fun q => bI (mZS S 0 q))) rfl o (show o < 512 by omega) (by decide) dX4_bodies_16 ?_
      refine lv_if_eq (tgt := 26) hx hb dX4_bodies_17 (by decide) (fun h3 => ?_) (fun h3 => ?_)
      · skip
        have h3 := bI_0.mp h3
        refine lv_iload_n hx hb dX4_bodies_26 rfl (lv_at hl 1 rfl) ?_
        refine lv_istore_n (lv' := [(1, .int ac), (2, .int (nI o)), (0, .ref (g_ad G 9 0))]) hx hb dX4_bodies_27 rfl hl (by decide) rfl (fun ls hl => ?_)
        refine lv_iinc (v := nI (o + 1)) (lv' := [(2, .int (nI (o + 1))), (1, .int ac), (0, .ref (g_ad G 9 0))]) hx hb dX4_bodies_28 hl (k := 1) rfl (nI_add o 1) (by decide) rfl (fun ls hl => ?_)
        refine lv_goto (tgt := 4) hx hb dX4_bodies_31 (by decide) ?_
        exact ih (o + 1) ac H locs ls (by omega) (by rw [ha9]; simp [ctB, h3, nI_add]) hw hS (lv_sub hl [0, 1, 2] rfl)
      · skip
        have h3 := bI_n0.mp h3
        refine lv_iload_n hx hb dX4_bodies_20 rfl (lv_at hl 1 rfl) ?_
        refine lv_iconst (v := nI 1) hx hb dX4_bodies_21 (by decide) ?_
        refine lv_iadd hx hb dX4_bodies_22 ?_
        refine lv_goto (tgt := 27) hx hb dX4_bodies_23 (by decide) ?_
        refine lv_istore_n (lv' := [(1, .int (ac + (nI 1))), (2, .int (nI o)), (0, .ref (g_ad G 9 0))]) hx hb dX4_bodies_27 rfl hl (by decide) rfl (fun ls hl => ?_)
        refine lv_iinc (v := nI (o + 1)) (lv' := [(2, .int (nI (o + 1))), (1, .int (ac + (nI 1))), (0, .ref (g_ad G 9 0))]) hx hb dX4_bodies_28 hl (k := 1) rfl (nI_add o 1) (by decide) rfl (fun ls hl => ?_)
        refine lv_goto (tgt := 4) hx hb dX4_bodies_31 (by decide) ?_
        exact ih (o + 1) (ac + (nI 1)) H locs ls (by omega) (by rw [ha9]; simp [ctB, h3, nI_add]) hw hS (lv_sub hl [0, 1, 2] rfl)
  exact LOOP 512 0 (nI 0) _ _ ls (by omega) rfl hw hS (lv_sub hl [0, 1, 2] rfl)
