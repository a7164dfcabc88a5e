/-! Box: what its methods answer -/
def wiF (x : UInt32) (k : Int32) : Bool := fGe x (FP.i2f (-k)) && fLe x (FP.i2f k)
def bxF (f : Nat → UInt32) : Bool := !(fGt (f 0) (f 3)) && !(fGt (f 1) (f 4)) && !(fGt (f 2) (f 5))
def gdF (f : Nat → UInt32) : Bool := wiF (f 0) (nI 16384) && (wiF (f 1) (nI 16384) && (wiF (f 2) (nI 16384) && (wiF (f 3) (nI 16384) && (wiF (f 4) (nI 16384) && wiF (f 5) (nI 16384)))))
def ovF (f g : Nat → UInt32) : Bool := (!(fGt (f 0) (g 3)) && !(fGt (g 0) (f 3))) && ((!(fGt (f 1) (g 4)) && !(fGt (g 1) (f 4))) && (!(fGt (f 2) (g 5)) && !(fGt (g 2) (f 5))))
def liF (f g : Nat → UInt32) : Bool := (!(fLt (f 0) (g 0)) && !(fGt (f 3) (g 3))) && ((!(fLt (f 1) (g 1)) && !(fGt (f 4) (g 4))) && (!(fLt (f 2) (g 2)) && !(fGt (f 5) (g 5))))
def mvF (f : Nat → UInt32) (dx dy dz : UInt32) : Nat → UInt32 := va_up (va_up (va_up (va_up (va_up (va_up f 0 (FP.fadd (f 0) dx)) 1 (FP.fadd (f 1) dy)) 2 (FP.fadd (f 2) dz)) 3 (FP.fadd (f 3) dx)) 4 (FP.fadd (f 4) dy)) 5 (FP.fadd (f 5) dz)
def mvN (f : Nat → UInt32) (dx dy dz : UInt32) : Prop := vf_n32 (FP.fadd (f 0) dx) ∧ vf_n32 (FP.fadd (f 1) dy) ∧ vf_n32 (FP.fadd (f 2) dz) ∧ vf_n32 (FP.fadd (f 3) dx) ∧ vf_n32 (FP.fadd (f 4) dy) ∧ vf_n32 (FP.fadd (f 5) dz)
def waF (f : Nat → UInt32) (a : Nat) (d : UInt32) : Nat → UInt32 := if fLt d FP.fconst0 = true then va_up (va_up f a (FP.fadd (FP.fsub (f a) 1048576000) (FP.fmul d FP.fconst2))) (a + 3) (FP.fadd (f (a + 3)) 1048576000) else va_up (va_up f a (FP.fsub (f a) 1048576000)) (a + 3) (FP.fadd (FP.fadd (f (a + 3)) 1048576000) (FP.fmul d FP.fconst2))
def waN (f : Nat → UInt32) (a : Nat) (d : UInt32) : Prop := vf_n32 (FP.fsub (f a) 1048576000) ∧ vf_n32 (FP.fadd (f (a + 3)) 1048576000) ∧ vf_n32 (FP.fmul d FP.fconst2) ∧ vf_n32 (FP.fadd (FP.fsub (f a) 1048576000) (FP.fmul d FP.fconst2)) ∧ vf_n32 (FP.fadd (FP.fadd (f (a + 3)) 1048576000) (FP.fmul d FP.fconst2))
def boxU (S : St) (j : Nat) (f : Nat → UInt32) : St := bxU S (va_up (bxS S) j f)
theorem bx_s (S : St) (j : Nat) (f : Nat → UInt32) : bxS (boxU S j f) j = f := by simp [boxU, bx_bx, va_up_self]
theorem bx_ne (S : St) {j k : Nat} (f : Nat → UInt32) (h : k ≠ j) : bxS (boxU S j f) k = bxS S k := by simp [boxU, bx_bx, va_up_ne _ _ h]
theorem bx_2 (S : St) (j : Nat) (f g : Nat → UInt32) : boxU (boxU S j f) j g = boxU S j g := by
  unfold boxU
  show bxU S _ = bxU S _
  congr 1
  funext k
  by_cases h : k = j <;> simp [va_up, h, bx_bx]
def wdF (f : Nat → UInt32) (dx dy dz : UInt32) : Nat → UInt32 := waF (waF (waF f 0 dx) 1 dy) 2 dz
def wdN (f : Nat → UInt32) (dx dy dz : UInt32) : Prop := waN f 0 dx ∧ waN (waF f 0 dx) 1 dy ∧ waN (waF (waF f 0 dx) 1 dy) 2 dz
set_option maxRecDepth 100000 in
set_option maxHeartbeats 1000000 in
theorem c_isWithin (l : Launch) (G : Gm) (S : St) (x : UInt32) (k : Int32) : Pi l yX3_isWithin wsX3_isWithin ({ frames := 0, cells := 0, slots := 0, locals := 0 } : Room) [.float x, .int k] G S (bI (wiF x k)) S := by
  refine ent (cc := cX3_isWithin) (maxL := 2) (ret := (some .boolean)) (by decide) rfl (Nat.le_of_ble_eq_true rfl) ?_
  intro p e s m below meth c ls C hw hT hS hl
  obtain ⟨hx, hb, hr, hml, hown, hts, hlk⟩ := C
  have hl : lv_has ls 2 [(0, .float x), (1, .int k)] := hl
  refine lv_fload_n hx hb dX3_isWithin_0 rfl (lv_at hl 0 rfl) ?_
  refine lv_iload_n hx hb dX3_isWithin_1 rfl (lv_at hl 1 rfl) ?_
  refine lv_ineg hx hb dX3_isWithin_2 ?_
  refine lv_i2f hx hb dX3_isWithin_3 ?_
  refine fc_llt (x := x) (y := FP.i2f (-k)) (tgt := 19) hx hb dX3_isWithin_4 dX3_isWithin_5 (by decide) (fun h1 => ?_) (fun h1 => ?_)
  · skip
    refine lv_iconst (v := nI 0) hx hb dX3_isWithin_19 (by decide) ?_
    refine top_i (y := bI false) (by decide) ?_
    exact ri hx hb hlk hr hw hS (congrArg bI (by simp [wiF, h1])) (bI_nar _) (Nat.le_of_ble_eq_true rfl) (Nat.le_of_ble_eq_true rfl) dX3_isWithin_20
  · skip
    refine lv_fload_n hx hb dX3_isWithin_8 rfl (lv_at hl 0 rfl) ?_
    refine lv_iload_n hx hb dX3_isWithin_9 rfl (lv_at hl 1 rfl) ?_
    refine lv_i2f hx hb dX3_isWithin_10 ?_
    refine fc_ggt (x := x) (y := FP.i2f k) (tgt := 19) hx hb dX3_isWithin_11 dX3_isWithin_12 (by decide) (fun h2 => ?_) (fun h2 => ?_)
    · skip
      refine lv_iconst (v := nI 0) hx hb dX3_isWithin_19 (by decide) ?_
      refine top_i (y := bI false) (by decide) ?_
      exact ri hx hb hlk hr hw hS (congrArg bI (by simp [wiF, h1, h2])) (bI_nar _) (Nat.le_of_ble_eq_true rfl) (Nat.le_of_ble_eq_true rfl) dX3_isWithin_20
    · skip
      refine lv_iconst (v := nI 1) hx hb dX3_isWithin_15 (by decide) ?_
      refine lv_goto (tgt := 20) hx hb dX3_isWithin_16 (by decide) ?_
      refine top_i (y := bI true) (by decide) ?_
      exact ri hx hb hlk hr hw hS (congrArg bI (by simp [wiF, h1, h2])) (bI_nar _) (Nat.le_of_ble_eq_true rfl) (Nat.le_of_ble_eq_true rfl) dX3_isWithin_20
set_option maxRecDepth 100000 in
set_option maxHeartbeats 1000000 in
theorem c_isBox (l : Launch) (G : Gm) (S : St) (j : Nat) (hj : j < 1026) : Pi l yX1_isBox wsX1_isBox ({ frames := 0, cells := 0, slots := 0, locals := 0 } : Room) [.ref (g_ad G 1 j)] G S (bI (bxF (bxS S j))) S := by
  refine ent (cc := cX1_isBox) (maxL := 2) (ret := (some .boolean)) (by decide) rfl (Nat.le_of_ble_eq_true rfl) ?_
  intro p e s m below meth c ls C hw hT hS hl
  obtain ⟨hx, hb, hr, hml, hown, hts, hlk⟩ := C
  have hl : lv_has ls 2 [(0, .ref (g_ad G 1 j))] := hl
  refine lv_iconst (v := nI 0) hx hb dX1_isBox_0 (by decide) ?_
  refine lv_istore_n (lv' := [(1, .int (nI 0)), (0, .ref (g_ad G 1 j))]) hx hb dX1_isBox_1 rfl hl (by decide) rfl (fun ls hl => ?_)
  refine lv_iload_n hx hb dX1_isBox_2 rfl (lv_at hl 0 rfl) ?_
  refine lv_iconst (v := nI 3) hx hb dX1_isBox_3 (by decide) ?_
  refine lv_icmp_ge (tgt := 35) hx hb dX1_isBox_4 (by decide) (fun q => absurd q (by decide)) (fun _ => ?_)
  refine lv_aload_n hx hb dX1_isBox_7 rfl (lv_at hl 1 rfl) ?_
  refine gf hx hb hown hts hw hT 1 j (show j < 1026 by omega) (ci := 1) rfl rfl (fun _ h => List.mem_cons_of_mem _ (List.mem_append_right _ h)) 0 (by decide) (List.mem_of_getElem? (i := 1) rfl) (v := .ref (g_ad G 2 j)) rfl dX1_isBox_8 ?_
  refine lv_iconst (v := nI 0) hx hb dX1_isBox_11 (by decide) ?_
  refine lv_iload_n hx hb dX1_isBox_12 rfl (lv_at hl 0 rfl) ?_
  refine lv_iadd hx hb dX1_isBox_13 ?_
  refine top_i (y := nI 0) (by decide) ?_
  refine afl hx hb hw hT 2 j (show j < 1026 by omega) (f := bxS S j) rfl 0 (by decide) (by decide) dX1_isBox_14 ?_
  refine lv_aload_n hx hb dX1_isBox_15 rfl (lv_at hl 1 rfl) ?_
  refine gf hx hb hown hts hw hT 1 j (show j < 1026 by omega) (ci := 1) rfl rfl (fun _ h => List.mem_cons_of_mem _ (List.mem_append_right _ h)) 0 (by decide) (List.mem_of_getElem? (i := 1) rfl) (v := .ref (g_ad G 2 j)) rfl dX1_isBox_16 ?_
  refine lv_iconst (v := nI 3) hx hb dX1_isBox_19 (by decide) ?_
  refine lv_iload_n hx hb dX1_isBox_20 rfl (lv_at hl 0 rfl) ?_
  refine lv_iadd hx hb dX1_isBox_21 ?_
  refine top_i (y := nI 3) (by decide) ?_
  refine afl hx hb hw hT 2 j (show j < 1026 by omega) (f := bxS S j) rfl 3 (by decide) (by decide) dX1_isBox_22 ?_
  refine fc_lle (x := bxS S j 0) (y := bxS S j 3) (tgt := 29) hx hb dX1_isBox_23 dX1_isBox_24 (by decide) (fun h2 => ?_) (fun h2 => ?_)
  · skip
    refine lv_iinc (v := nI 1) (lv' := [(1, .int (nI 1)), (0, .ref (g_ad G 1 j))]) hx hb dX1_isBox_29 hl (k := 0) rfl (by decide) (by decide) rfl (fun ls hl => ?_)
    refine lv_goto (tgt := 2) hx hb dX1_isBox_32 (by decide) ?_
    refine lv_iload_n hx hb dX1_isBox_2 rfl (lv_at hl 0 rfl) ?_
    refine lv_iconst (v := nI 3) hx hb dX1_isBox_3 (by decide) ?_
    refine lv_icmp_ge (tgt := 35) hx hb dX1_isBox_4 (by decide) (fun q => absurd q (by decide)) (fun _ => ?_)
    refine lv_aload_n hx hb dX1_isBox_7 rfl (lv_at hl 1 rfl) ?_
    refine gf hx hb hown hts hw hT 1 j (show j < 1026 by omega) (ci := 1) rfl rfl (fun _ h => List.mem_cons_of_mem _ (List.mem_append_right _ h)) 0 (by decide) (List.mem_of_getElem? (i := 1) rfl) (v := .ref (g_ad G 2 j)) rfl dX1_isBox_8 ?_
    refine lv_iconst (v := nI 0) hx hb dX1_isBox_11 (by decide) ?_
    refine lv_iload_n hx hb dX1_isBox_12 rfl (lv_at hl 0 rfl) ?_
    refine lv_iadd hx hb dX1_isBox_13 ?_
    refine top_i (y := nI 1) (by decide) ?_
    refine afl hx hb hw hT 2 j (show j < 1026 by omega) (f := bxS S j) rfl 1 (by decide) (by decide) dX1_isBox_14 ?_
    refine lv_aload_n hx hb dX1_isBox_15 rfl (lv_at hl 1 rfl) ?_
    refine gf hx hb hown hts hw hT 1 j (show j < 1026 by omega) (ci := 1) rfl rfl (fun _ h => List.mem_cons_of_mem _ (List.mem_append_right _ h)) 0 (by decide) (List.mem_of_getElem? (i := 1) rfl) (v := .ref (g_ad G 2 j)) rfl dX1_isBox_16 ?_
    refine lv_iconst (v := nI 3) hx hb dX1_isBox_19 (by decide) ?_
    refine lv_iload_n hx hb dX1_isBox_20 rfl (lv_at hl 0 rfl) ?_
    refine lv_iadd hx hb dX1_isBox_21 ?_
    refine top_i (y := nI 4) (by decide) ?_
    refine afl hx hb hw hT 2 j (show j < 1026 by omega) (f := bxS S j) rfl 4 (by decide) (by decide) dX1_isBox_22 ?_
    refine fc_lle (x := bxS S j 1) (y := bxS S j 4) (tgt := 29) hx hb dX1_isBox_23 dX1_isBox_24 (by decide) (fun h4 => ?_) (fun h4 => ?_)
    · skip
      refine lv_iinc (v := nI 2) (lv' := [(1, .int (nI 2)), (0, .ref (g_ad G 1 j))]) hx hb dX1_isBox_29 hl (k := 0) rfl (by decide) (by decide) rfl (fun ls hl => ?_)
      refine lv_goto (tgt := 2) hx hb dX1_isBox_32 (by decide) ?_
      refine lv_iload_n hx hb dX1_isBox_2 rfl (lv_at hl 0 rfl) ?_
      refine lv_iconst (v := nI 3) hx hb dX1_isBox_3 (by decide) ?_
      refine lv_icmp_ge (tgt := 35) hx hb dX1_isBox_4 (by decide) (fun q => absurd q (by decide)) (fun _ => ?_)
      refine lv_aload_n hx hb dX1_isBox_7 rfl (lv_at hl 1 rfl) ?_
      refine gf hx hb hown hts hw hT 1 j (show j < 1026 by omega) (ci := 1) rfl rfl (fun _ h => List.mem_cons_of_mem _ (List.mem_append_right _ h)) 0 (by decide) (List.mem_of_getElem? (i := 1) rfl) (v := .ref (g_ad G 2 j)) rfl dX1_isBox_8 ?_
      refine lv_iconst (v := nI 0) hx hb dX1_isBox_11 (by decide) ?_
      refine lv_iload_n hx hb dX1_isBox_12 rfl (lv_at hl 0 rfl) ?_
      refine lv_iadd hx hb dX1_isBox_13 ?_
      refine top_i (y := nI 2) (by decide) ?_
      refine afl hx hb hw hT 2 j (show j < 1026 by omega) (f := bxS S j) rfl 2 (by decide) (by decide) dX1_isBox_14 ?_
      refine lv_aload_n hx hb dX1_isBox_15 rfl (lv_at hl 1 rfl) ?_
      refine gf hx hb hown hts hw hT 1 j (show j < 1026 by omega) (ci := 1) rfl rfl (fun _ h => List.mem_cons_of_mem _ (List.mem_append_right _ h)) 0 (by decide) (List.mem_of_getElem? (i := 1) rfl) (v := .ref (g_ad G 2 j)) rfl dX1_isBox_16 ?_
      refine lv_iconst (v := nI 3) hx hb dX1_isBox_19 (by decide) ?_
      refine lv_iload_n hx hb dX1_isBox_20 rfl (lv_at hl 0 rfl) ?_
      refine lv_iadd hx hb dX1_isBox_21 ?_
      refine top_i (y := nI 5) (by decide) ?_
      refine afl hx hb hw hT 2 j (show j < 1026 by omega) (f := bxS S j) rfl 5 (by decide) (by decide) dX1_isBox_22 ?_
      refine fc_lle (x := bxS S j 2) (y := bxS S j 5) (tgt := 29) hx hb dX1_isBox_23 dX1_isBox_24 (by decide) (fun h6 => ?_) (fun h6 => ?_)
      · skip
        refine lv_iinc (v := nI 3) (lv' := [(1, .int (nI 3)), (0, .ref (g_ad G 1 j))]) hx hb dX1_isBox_29 hl (k := 0) rfl (by decide) (by decide) rfl (fun ls hl => ?_)
        refine lv_goto (tgt := 2) hx hb dX1_isBox_32 (by decide) ?_
        refine lv_iload_n hx hb dX1_isBox_2 rfl (lv_at hl 0 rfl) ?_
        refine lv_iconst (v := nI 3) hx hb dX1_isBox_3 (by decide) ?_
        refine lv_icmp_ge (tgt := 35) hx hb dX1_isBox_4 (by decide) (fun _ => ?_) (fun q => absurd (by decide) q)
        refine lv_iconst (v := nI 1) hx hb dX1_isBox_35 (by decide) ?_
        refine top_i (y := bI true) (by decide) ?_
        exact ri hx hb hlk hr hw hS (congrArg bI (by simp [bxF, h2, h4, h6])) (bI_nar _) (Nat.le_of_ble_eq_true rfl) (Nat.le_of_ble_eq_true rfl) dX1_isBox_36
      · skip
        refine lv_iconst (v := nI 0) hx hb dX1_isBox_27 (by decide) ?_
        refine top_i (y := bI false) (by decide) ?_
        exact ri hx hb hlk hr hw hS (congrArg bI (by simp [bxF, h2, h4, h6])) (bI_nar _) (Nat.le_of_ble_eq_true rfl) (Nat.le_of_ble_eq_true rfl) dX1_isBox_28
    · skip
      refine lv_iconst (v := nI 0) hx hb dX1_isBox_27 (by decide) ?_
      refine top_i (y := bI false) (by decide) ?_
      exact ri hx hb hlk hr hw hS (congrArg bI (by simp [bxF, h2, h4])) (bI_nar _) (Nat.le_of_ble_eq_true rfl) (Nat.le_of_ble_eq_true rfl) dX1_isBox_28
  · skip
    refine lv_iconst (v := nI 0) hx hb dX1_isBox_27 (by decide) ?_
    refine top_i (y := bI false) (by decide) ?_
    exact ri hx hb hlk hr hw hS (congrArg bI (by simp [bxF, h2])) (bI_nar _) (Nat.le_of_ble_eq_true rfl) (Nat.le_of_ble_eq_true rfl) dX1_isBox_28
set_option maxRecDepth 100000 in
set_option maxHeartbeats 1000000 in
theorem c_isGood (l : Launch) (G : Gm) (S : St) (j : Nat) (hj : j < 1026) : Pi l yX1_isGood wsX1_isGood ({ frames := 1, cells := 0, slots := 0, locals := 21 } : Room) [.ref (g_ad G 1 j)] G S (bI (gdF (bxS S j))) S := by
  refine ent (cc := cX1_isGood) (maxL := 2) (ret := (some .boolean)) (by decide) rfl (Nat.le_of_ble_eq_true rfl) ?_
  intro p e s m below meth c ls C hw hT hS hl
  obtain ⟨hx, hb, hr, hml, hown, hts, hlk⟩ := C
  have hl : lv_has ls 2 [(0, .ref (g_ad G 1 j))] := hl
  refine lv_iconst (v := nI 0) hx hb dX1_isGood_0 (by decide) ?_
  refine lv_istore_n (lv' := [(1, .int (nI 0)), (0, .ref (g_ad G 1 j))]) hx hb dX1_isGood_1 rfl hl (by decide) rfl (fun ls hl => ?_)
  refine lv_iload_n hx hb dX1_isGood_2 rfl (lv_at hl 0 rfl) ?_
  refine lv_bipush (v := nI 6) hx hb dX1_isGood_3 (by decide) ?_
  refine lv_icmp_ge (tgt := 31) hx hb dX1_isGood_5 (by decide) (fun q => absurd q (by decide)) (fun _ => ?_)
  refine lv_aload_n hx hb dX1_isGood_8 rfl (lv_at hl 1 rfl) ?_
  refine gf hx hb hown hts hw hT 1 j (show j < 1026 by omega) (ci := 1) rfl rfl (fun _ h => List.mem_cons_of_mem _ (List.mem_append_right _ h)) 0 (by decide) (List.mem_of_getElem? (i := 1) rfl) (v := .ref (g_ad G 2 j)) rfl dX1_isGood_9 ?_
  refine lv_iload_n hx hb dX1_isGood_12 rfl (lv_at hl 0 rfl) ?_
  refine afl hx hb hw hT 2 j (show j < 1026 by omega) (f := bxS S j) rfl 0 (by decide) (by decide) dX1_isGood_13 ?_
  refine lv_sipush (v := nI 16384) hx hb dX1_isGood_14 (by decide) ?_
  refine cNi ⟨hx, hb, hml, hown, hts⟩ (c_isWithin l G S (bxS S j 0) (nI 16384)) ⟨va_cnB 2 hts gX1_isGood_X3_isWithin_n26 rfl rfl rfl hT.2.2.1 (hts _ (List.mem_of_getElem? (i := 3) rfl)) (by decide +kernel) ⟨(Nat.le_of_ble_eq_true rfl), (Nat.le_of_ble_eq_true rfl)⟩, hts _ (List.mem_of_getElem? (i := 2) rfl), trivial⟩ hw hT hS (As := [.float (bxS S j 0), .int (nI 16384)]) (rest := []) rfl hl.1 rfl (Nat.le_of_ble_eq_true rfl) dX1_isGood_17 ⟨(Nat.le_of_ble_eq_true rfl), (Nat.le_of_ble_eq_true rfl)⟩ (fun H locs hw hS => ?_)
  refine lv_if_ne (tgt := 25) hx hb dX1_isGood_20 (by decide) (fun h2 => ?_) (fun h2 => ?_)
  · skip
    have h2 := bI_n0.mp h2
    refine lv_iinc (v := nI 1) (lv' := [(1, .int (nI 1)), (0, .ref (g_ad G 1 j))]) hx hb dX1_isGood_25 hl (k := 0) rfl (by decide) (by decide) rfl (fun ls hl => ?_)
    refine lv_goto (tgt := 2) hx hb dX1_isGood_28 (by decide) ?_
    refine lv_iload_n hx hb dX1_isGood_2 rfl (lv_at hl 0 rfl) ?_
    refine lv_bipush (v := nI 6) hx hb dX1_isGood_3 (by decide) ?_
    refine lv_icmp_ge (tgt := 31) hx hb dX1_isGood_5 (by decide) (fun q => absurd q (by decide)) (fun _ => ?_)
    refine lv_aload_n hx hb dX1_isGood_8 rfl (lv_at hl 1 rfl) ?_
    refine gf hx hb hown hts hw hT 1 j (show j < 1026 by omega) (ci := 1) rfl rfl (fun _ h => List.mem_cons_of_mem _ (List.mem_append_right _ h)) 0 (by decide) (List.mem_of_getElem? (i := 1) rfl) (v := .ref (g_ad G 2 j)) rfl dX1_isGood_9 ?_
    refine lv_iload_n hx hb dX1_isGood_12 rfl (lv_at hl 0 rfl) ?_
    refine afl hx hb hw hT 2 j (show j < 1026 by omega) (f := bxS S j) rfl 1 (by decide) (by decide) dX1_isGood_13 ?_
    refine lv_sipush (v := nI 16384) hx hb dX1_isGood_14 (by decide) ?_
    refine cNi ⟨hx, hb, hml, hown, hts⟩ (c_isWithin l G S (bxS S j 1) (nI 16384)) ⟨va_cnB 2 hts gX1_isGood_X3_isWithin_n26 rfl rfl rfl hT.2.2.1 (hts _ (List.mem_of_getElem? (i := 3) rfl)) (by decide +kernel) ⟨(Nat.le_of_ble_eq_true rfl), (Nat.le_of_ble_eq_true rfl)⟩, hts _ (List.mem_of_getElem? (i := 2) rfl), trivial⟩ hw hT hS (As := [.float (bxS S j 1), .int (nI 16384)]) (rest := []) rfl hl.1 rfl (Nat.le_of_ble_eq_true rfl) dX1_isGood_17 ⟨(Nat.le_of_ble_eq_true rfl), (Nat.le_of_ble_eq_true rfl)⟩ (fun H locs hw hS => ?_)
    refine lv_if_ne (tgt := 25) hx hb dX1_isGood_20 (by decide) (fun h4 => ?_) (fun h4 => ?_)
    · skip
      have h4 := bI_n0.mp h4
      refine lv_iinc (v := nI 2) (lv' := [(1, .int (nI 2)), (0, .ref (g_ad G 1 j))]) hx hb dX1_isGood_25 hl (k := 0) rfl (by decide) (by decide) rfl (fun ls hl => ?_)
      refine lv_goto (tgt := 2) hx hb dX1_isGood_28 (by decide) ?_
      refine lv_iload_n hx hb dX1_isGood_2 rfl (lv_at hl 0 rfl) ?_
      refine lv_bipush (v := nI 6) hx hb dX1_isGood_3 (by decide) ?_
      refine lv_icmp_ge (tgt := 31) hx hb dX1_isGood_5 (by decide) (fun q => absurd q (by decide)) (fun _ => ?_)
      refine lv_aload_n hx hb dX1_isGood_8 rfl (lv_at hl 1 rfl) ?_
      refine gf hx hb hown hts hw hT 1 j (show j < 1026 by omega) (ci := 1) rfl rfl (fun _ h => List.mem_cons_of_mem _ (List.mem_append_right _ h)) 0 (by decide) (List.mem_of_getElem? (i := 1) rfl) (v := .ref (g_ad G 2 j)) rfl dX1_isGood_9 ?_
      refine lv_iload_n hx hb dX1_isGood_12 rfl (lv_at hl 0 rfl) ?_
      refine afl hx hb hw hT 2 j (show j < 1026 by omega) (f := bxS S j) rfl 2 (by decide) (by decide) dX1_isGood_13 ?_
      refine lv_sipush (v := nI 16384) hx hb dX1_isGood_14 (by decide) ?_
      refine cNi ⟨hx, hb, hml, hown, hts⟩ (c_isWithin l G S (bxS S j 2) (nI 16384)) ⟨va_cnB 2 hts gX1_isGood_X3_isWithin_n26 rfl rfl rfl hT.2.2.1 (hts _ (List.mem_of_getElem? (i := 3) rfl)) (by decide +kernel) ⟨(Nat.le_of_ble_eq_true rfl), (Nat.le_of_ble_eq_true rfl)⟩, hts _ (List.mem_of_getElem? (i := 2) rfl), trivial⟩ hw hT hS (As := [.float (bxS S j 2), .int (nI 16384)]) (rest := []) rfl hl.1 rfl (Nat.le_of_ble_eq_true rfl) dX1_isGood_17 ⟨(Nat.le_of_ble_eq_true rfl), (Nat.le_of_ble_eq_true rfl)⟩ (fun H locs hw hS => ?_)
      refine lv_if_ne (tgt := 25) hx hb dX1_isGood_20 (by decide) (fun h6 => ?_) (fun h6 => ?_)
      · skip
        have h6 := bI_n0.mp h6
        refine lv_iinc (v := nI 3) (lv' := [(1, .int (nI 3)), (0, .ref (g_ad G 1 j))]) hx hb dX1_isGood_25 hl (k := 0) rfl (by decide) (by decide) rfl (fun ls hl => ?_)
        refine lv_goto (tgt := 2) hx hb dX1_isGood_28 (by decide) ?_
        refine lv_iload_n hx hb dX1_isGood_2 rfl (lv_at hl 0 rfl) ?_
        refine lv_bipush (v := nI 6) hx hb dX1_isGood_3 (by decide) ?_
        refine lv_icmp_ge (tgt := 31) hx hb dX1_isGood_5 (by decide) (fun q => absurd q (by decide)) (fun _ => ?_)
        refine lv_aload_n hx hb dX1_isGood_8 rfl (lv_at hl 1 rfl) ?_
        refine gf hx hb hown hts hw hT 1 j (show j < 1026 by omega) (ci := 1) rfl rfl (fun _ h => List.mem_cons_of_mem _ (List.mem_append_right _ h)) 0 (by decide) (List.mem_of_getElem? (i := 1) rfl) (v := .ref (g_ad G 2 j)) rfl dX1_isGood_9 ?_
        refine lv_iload_n hx hb dX1_isGood_12 rfl (lv_at hl 0 rfl) ?_
        refine afl hx hb hw hT 2 j (show j < 1026 by omega) (f := bxS S j) rfl 3 (by decide) (by decide) dX1_isGood_13 ?_
        refine lv_sipush (v := nI 16384) hx hb dX1_isGood_14 (by decide) ?_
        refine cNi ⟨hx, hb, hml, hown, hts⟩ (c_isWithin l G S (bxS S j 3) (nI 16384)) ⟨va_cnB 2 hts gX1_isGood_X3_isWithin_n26 rfl rfl rfl hT.2.2.1 (hts _ (List.mem_of_getElem? (i := 3) rfl)) (by decide +kernel) ⟨(Nat.le_of_ble_eq_true rfl), (Nat.le_of_ble_eq_true rfl)⟩, hts _ (List.mem_of_getElem? (i := 2) rfl), trivial⟩ hw hT hS (As := [.float (bxS S j 3), .int (nI 16384)]) (rest := []) rfl hl.1 rfl (Nat.le_of_ble_eq_true rfl) dX1_isGood_17 ⟨(Nat.le_of_ble_eq_true rfl), (Nat.le_of_ble_eq_true rfl)⟩ (fun H locs hw hS => ?_)
        refine lv_if_ne (tgt := 25) hx hb dX1_isGood_20 (by decide) (fun h8 => ?_) (fun h8 => ?_)
        · skip
          have h8 := bI_n0.mp h8
          refine lv_iinc (v := nI 4) (lv' := [(1, .int (nI 4)), (0, .ref (g_ad G 1 j))]) hx hb dX1_isGood_25 hl (k := 0) rfl (by decide) (by decide) rfl (fun ls hl => ?_)
          refine lv_goto (tgt := 2) hx hb dX1_isGood_28 (by decide) ?_
          refine lv_iload_n hx hb dX1_isGood_2 rfl (lv_at hl 0 rfl) ?_
          refine lv_bipush (v := nI 6) hx hb dX1_isGood_3 (by decide) ?_
          refine lv_icmp_ge (tgt := 31) hx hb dX1_isGood_5 (by decide) (fun q => absurd q (by decide)) (fun _ => ?_)
          refine lv_aload_n hx hb dX1_isGood_8 rfl (lv_at hl 1 rfl) ?_
          refine gf hx hb hown hts hw hT 1 j (show j < 1026 by omega) (ci := 1) rfl rfl (fun _ h => List.mem_cons_of_mem _ (List.mem_append_right _ h)) 0 (by decide) (List.mem_of_getElem? (i := 1) rfl) (v := .ref (g_ad G 2 j)) rfl dX1_isGood_9 ?_
          refine lv_iload_n hx hb dX1_isGood_12 rfl (lv_at hl 0 rfl) ?_
          refine afl hx hb hw hT 2 j (show j < 1026 by omega) (f := bxS S j) rfl 4 (by decide) (by decide) dX1_isGood_13 ?_
          refine lv_sipush (v := nI 16384) hx hb dX1_isGood_14 (by decide) ?_
          refine cNi ⟨hx, hb, hml, hown, hts⟩ (c_isWithin l G S (bxS S j 4) (nI 16384)) ⟨va_cnB 2 hts gX1_isGood_X3_isWithin_n26 rfl rfl rfl hT.2.2.1 (hts _ (List.mem_of_getElem? (i := 3) rfl)) (by decide +kernel) ⟨(Nat.le_of_ble_eq_true rfl), (Nat.le_of_ble_eq_true rfl)⟩, hts _ (List.mem_of_getElem? (i := 2) rfl), trivial⟩ hw hT hS (As := [.float (bxS S j 4), .int (nI 16384)]) (rest := []) rfl hl.1 rfl (Nat.le_of_ble_eq_true rfl) dX1_isGood_17 ⟨(Nat.le_of_ble_eq_true rfl), (Nat.le_of_ble_eq_true rfl)⟩ (fun H locs hw hS => ?_)
          refine lv_if_ne (tgt := 25) hx hb dX1_isGood_20 (by decide) (fun h10 => ?_) (fun h10 => ?_)
          · skip
            have h10 := bI_n0.mp h10
            refine lv_iinc (v := nI 5) (lv' := [(1, .int (nI 5)), (0, .ref (g_ad G 1 j))]) hx hb dX1_isGood_25 hl (k := 0) rfl (by decide) (by decide) rfl (fun ls hl => ?_)
            refine lv_goto (tgt := 2) hx hb dX1_isGood_28 (by decide) ?_
            refine lv_iload_n hx hb dX1_isGood_2 rfl (lv_at hl 0 rfl) ?_
            refine lv_bipush (v := nI 6) hx hb dX1_isGood_3 (by decide) ?_
            refine lv_icmp_ge (tgt := 31) hx hb dX1_isGood_5 (by decide) (fun q => absurd q (by decide)) (fun _ => ?_)
            refine lv_aload_n hx hb dX1_isGood_8 rfl (lv_at hl 1 rfl) ?_
            refine gf hx hb hown hts hw hT 1 j (show j < 1026 by omega) (ci := 1) rfl rfl (fun _ h => List.mem_cons_of_mem _ (List.mem_append_right _ h)) 0 (by decide) (List.mem_of_getElem? (i := 1) rfl) (v := .ref (g_ad G 2 j)) rfl dX1_isGood_9 ?_
            refine lv_iload_n hx hb dX1_isGood_12 rfl (lv_at hl 0 rfl) ?_
            refine afl hx hb hw hT 2 j (show j < 1026 by omega) (f := bxS S j) rfl 5 (by decide) (by decide) dX1_isGood_13 ?_
            refine lv_sipush (v := nI 16384) hx hb dX1_isGood_14 (by decide) ?_
            refine cNi ⟨hx, hb, hml, hown, hts⟩ (c_isWithin l G S (bxS S j 5) (nI 16384)) ⟨va_cnB 2 hts gX1_isGood_X3_isWithin_n26 rfl rfl rfl hT.2.2.1 (hts _ (List.mem_of_getElem? (i := 3) rfl)) (by decide +kernel) ⟨(Nat.le_of_ble_eq_true rfl), (Nat.le_of_ble_eq_true rfl)⟩, hts _ (List.mem_of_getElem? (i := 2) rfl), trivial⟩ hw hT hS (As := [.float (bxS S j 5), .int (nI 16384)]) (rest := []) rfl hl.1 rfl (Nat.le_of_ble_eq_true rfl) dX1_isGood_17 ⟨(Nat.le_of_ble_eq_true rfl), (Nat.le_of_ble_eq_true rfl)⟩ (fun H locs hw hS => ?_)
            refine lv_if_ne (tgt := 25) hx hb dX1_isGood_20 (by decide) (fun h12 => ?_) (fun h12 => ?_)
            · skip
              have h12 := bI_n0.mp h12
              refine lv_iinc (v := nI 6) (lv' := [(1, .int (nI 6)), (0, .ref (g_ad G 1 j))]) hx hb dX1_isGood_25 hl (k := 0) rfl (by decide) (by decide) rfl (fun ls hl => ?_)
              refine lv_goto (tgt := 2) hx hb dX1_isGood_28 (by decide) ?_
              refine lv_iload_n hx hb dX1_isGood_2 rfl (lv_at hl 0 rfl) ?_
              refine lv_bipush (v := nI 6) hx hb dX1_isGood_3 (by decide) ?_
              refine lv_icmp_ge (tgt := 31) hx hb dX1_isGood_5 (by decide) (fun _ => ?_) (fun q => absurd (by decide) q)
              refine lv_iconst (v := nI 1) hx hb dX1_isGood_31 (by decide) ?_
              refine top_i (y := bI true) (by decide) ?_
              exact ri hx hb hlk hr hw hS (congrArg bI (by simp [gdF, h2, h4, h6, h8, h10, h12])) (bI_nar _) (Nat.le_of_ble_eq_true rfl) (Nat.le_of_ble_eq_true rfl) dX1_isGood_32
            · skip
              have h12 := bI_0.mp h12
              refine lv_iconst (v := nI 0) hx hb dX1_isGood_23 (by decide) ?_
              refine top_i (y := bI false) (by decide) ?_
              exact ri hx hb hlk hr hw hS (congrArg bI (by simp [gdF, h2, h4, h6, h8, h10, h12])) (bI_nar _) (Nat.le_of_ble_eq_true rfl) (Nat.le_of_ble_eq_true rfl) dX1_isGood_24
          · skip
            have h10 := bI_0.mp h10
            refine lv_iconst (v := nI 0) hx hb dX1_isGood_23 (by decide) ?_
            refine top_i (y := bI false) (by decide) ?_
            exact ri hx hb hlk hr hw hS (congrArg bI (by simp [gdF, h2, h4, h6, h8, h10])) (bI_nar _) (Nat.le_of_ble_eq_true rfl) (Nat.le_of_ble_eq_true rfl) dX1_isGood_24
        · skip
          have h8 := bI_0.mp h8
          refine lv_iconst (v := nI 0) hx hb dX1_isGood_23 (by decide) ?_
          refine top_i (y := bI false) (by decide) ?_
          exact ri hx hb hlk hr hw hS (congrArg bI (by simp [gdF, h2, h4, h6, h8])) (bI_nar _) (Nat.le_of_ble_eq_true rfl) (Nat.le_of_ble_eq_true rfl) dX1_isGood_24
      · skip
        have h6 := bI_0.mp h6
        refine lv_iconst (v := nI 0) hx hb dX1_isGood_23 (by decide) ?_
        refine top_i (y := bI false) (by decide) ?_
        exact ri hx hb hlk hr hw hS (congrArg bI (by simp [gdF, h2, h4, h6])) (bI_nar _) (Nat.le_of_ble_eq_true rfl) (Nat.le_of_ble_eq_true rfl) dX1_isGood_24
    · skip
      have h4 := bI_0.mp h4
      refine lv_iconst (v := nI 0) hx hb dX1_isGood_23 (by decide) ?_
      refine top_i (y := bI false) (by decide) ?_
      exact ri hx hb hlk hr hw hS (congrArg bI (by simp [gdF, h2, h4])) (bI_nar _) (Nat.le_of_ble_eq_true rfl) (Nat.le_of_ble_eq_true rfl) dX1_isGood_24
  · skip
    have h2 := bI_0.mp h2
    refine lv_iconst (v := nI 0) hx hb dX1_isGood_23 (by decide) ?_
    refine top_i (y := bI false) (by decide) ?_
    exact ri hx hb hlk hr hw hS (congrArg bI (by simp [gdF, h2])) (bI_nar _) (Nat.le_of_ble_eq_true rfl) (Nat.le_of_ble_eq_true rfl) dX1_isGood_24
set_option maxRecDepth 100000 in
set_option maxHeartbeats 1000000 in
theorem c_overlaps (l : Launch) (G : Gm) (S : St) (j : Nat) (hj : j < 1026) (a : Nat) (ha : a < 1026) : Pi l yX1_overlaps wsX1_overlaps ({ frames := 0, cells := 0, slots := 0, locals := 0 } : Room) [.ref (g_ad G 1 j), .ref (g_ad G 1 a)] G S (bI (ovF (bxS S j) (bxS S a))) S := by
  refine ent (cc := cX1_overlaps) (maxL := 3) (ret := (some .boolean)) (by decide) rfl (Nat.le_of_ble_eq_true rfl) ?_
  intro p e s m below meth c ls C hw hT hS hl
  obtain ⟨hx, hb, hr, hml, hown, hts, hlk⟩ := C
  have hl : lv_has ls 3 [(0, .ref (g_ad G 1 j)), (1, .ref (g_ad G 1 a))] := hl
  refine lv_iconst (v := nI 0) hx hb dX1_overlaps_0 (by decide) ?_
  refine lv_istore_n (lv' := [(2, .int (nI 0)), (0, .ref (g_ad G 1 j)), (1, .ref (g_ad G 1 a))]) hx hb dX1_overlaps_1 rfl hl (by decide) rfl (fun ls hl => ?_)
  refine lv_iload_n hx hb dX1_overlaps_2 rfl (lv_at hl 0 rfl) ?_
  refine lv_iconst (v := nI 3) hx hb dX1_overlaps_3 (by decide) ?_
  refine lv_icmp_ge (tgt := 55) hx hb dX1_overlaps_4 (by decide) (fun q => absurd q (by decide)) (fun _ => ?_)
  refine lv_aload_n hx hb dX1_overlaps_7 rfl (lv_at hl 1 rfl) ?_
  refine gf hx hb hown hts hw hT 1 j (show j < 1026 by omega) (ci := 1) rfl rfl (fun _ h => List.mem_cons_of_mem _ (List.mem_append_right _ h)) 0 (by decide) (List.mem_of_getElem? (i := 1) rfl) (v := .ref (g_ad G 2 j)) rfl dX1_overlaps_8 ?_
  refine lv_iconst (v := nI 0) hx hb dX1_overlaps_11 (by decide) ?_
  refine lv_iload_n hx hb dX1_overlaps_12 rfl (lv_at hl 0 rfl) ?_
  refine lv_iadd hx hb dX1_overlaps_13 ?_
  refine top_i (y := nI 0) (by decide) ?_
  refine afl hx hb hw hT 2 j (show j < 1026 by omega) (f := bxS S j) rfl 0 (by decide) (by decide) dX1_overlaps_14 ?_
  refine lv_aload_n hx hb dX1_overlaps_15 rfl (lv_at hl 2 rfl) ?_
  refine gf hx hb hown hts hw hT 1 a (show a < 1026 by omega) (ci := 1) rfl rfl (fun _ h => List.mem_cons_of_mem _ (List.mem_append_right _ h)) 0 (by decide) (List.mem_of_getElem? (i := 1) rfl) (v := .ref (g_ad G 2 a)) rfl dX1_overlaps_16 ?_
  refine lv_iconst (v := nI 3) hx hb dX1_overlaps_19 (by decide) ?_
  refine lv_iload_n hx hb dX1_overlaps_20 rfl (lv_at hl 0 rfl) ?_
  refine lv_iadd hx hb dX1_overlaps_21 ?_
  refine top_i (y := nI 3) (by decide) ?_
  refine afl hx hb hw hT 2 a (show a < 1026 by omega) (f := bxS S a) rfl 3 (by decide) (by decide) dX1_overlaps_22 ?_
  refine fc_lgt (x := bxS S j 0) (y := bxS S a 3) (tgt := 47) hx hb dX1_overlaps_23 dX1_overlaps_24 (by decide) (fun h2 => ?_) (fun h2 => ?_)
  · skip
    refine lv_iconst (v := nI 0) hx hb dX1_overlaps_47 (by decide) ?_
    refine top_i (y := bI false) (by decide) ?_
    exact ri hx hb hlk hr hw hS (congrArg bI (by simp [ovF, h2])) (bI_nar _) (Nat.le_of_ble_eq_true rfl) (Nat.le_of_ble_eq_true rfl) dX1_overlaps_48
  · skip
    refine lv_aload_n hx hb dX1_overlaps_27 rfl (lv_at hl 2 rfl) ?_
    refine gf hx hb hown hts hw hT 1 a (show a < 1026 by omega) (ci := 1) rfl rfl (fun _ h => List.mem_cons_of_mem _ (List.mem_append_right _ h)) 0 (by decide) (List.mem_of_getElem? (i := 1) rfl) (v := .ref (g_ad G 2 a)) rfl dX1_overlaps_28 ?_
    refine lv_iconst (v := nI 0) hx hb dX1_overlaps_31 (by decide) ?_
    refine lv_iload_n hx hb dX1_overlaps_32 rfl (lv_at hl 0 rfl) ?_
    refine lv_iadd hx hb dX1_overlaps_33 ?_
    refine top_i (y := nI 0) (by decide) ?_
    refine afl hx hb hw hT 2 a (show a < 1026 by omega) (f := bxS S a) rfl 0 (by decide) (by decide) dX1_overlaps_34 ?_
    refine lv_aload_n hx hb dX1_overlaps_35 rfl (lv_at hl 1 rfl) ?_
    refine gf hx hb hown hts hw hT 1 j (show j < 1026 by omega) (ci := 1) rfl rfl (fun _ h => List.mem_cons_of_mem _ (List.mem_append_right _ h)) 0 (by decide) (List.mem_of_getElem? (i := 1) rfl) (v := .ref (g_ad G 2 j)) rfl dX1_overlaps_36 ?_
    refine lv_iconst (v := nI 3) hx hb dX1_overlaps_39 (by decide) ?_
    refine lv_iload_n hx hb dX1_overlaps_40 rfl (lv_at hl 0 rfl) ?_
    refine lv_iadd hx hb dX1_overlaps_41 ?_
    refine top_i (y := nI 3) (by decide) ?_
    refine afl hx hb hw hT 2 j (show j < 1026 by omega) (f := bxS S j) rfl 3 (by decide) (by decide) dX1_overlaps_42 ?_
    refine fc_lle (x := bxS S a 0) (y := bxS S j 3) (tgt := 49) hx hb dX1_overlaps_43 dX1_overlaps_44 (by decide) (fun h3 => ?_) (fun h3 => ?_)
    · skip
      refine lv_iinc (v := nI 1) (lv' := [(2, .int (nI 1)), (0, .ref (g_ad G 1 j)), (1, .ref (g_ad G 1 a))]) hx hb dX1_overlaps_49 hl (k := 0) rfl (by decide) (by decide) rfl (fun ls hl => ?_)
      refine lv_goto (tgt := 2) hx hb dX1_overlaps_52 (by decide) ?_
      refine lv_iload_n hx hb dX1_overlaps_2 rfl (lv_at hl 0 rfl) ?_
      refine lv_iconst (v := nI 3) hx hb dX1_overlaps_3 (by decide) ?_
      refine lv_icmp_ge (tgt := 55) hx hb dX1_overlaps_4 (by decide) (fun q => absurd q (by decide)) (fun _ => ?_)
      refine lv_aload_n hx hb dX1_overlaps_7 rfl (lv_at hl 1 rfl) ?_
      refine gf hx hb hown hts hw hT 1 j (show j < 1026 by omega) (ci := 1) rfl rfl (fun _ h => List.mem_cons_of_mem _ (List.mem_append_right _ h)) 0 (by decide) (List.mem_of_getElem? (i := 1) rfl) (v := .ref (g_ad G 2 j)) rfl dX1_overlaps_8 ?_
      refine lv_iconst (v := nI 0) hx hb dX1_overlaps_11 (by decide) ?_
      refine lv_iload_n hx hb dX1_overlaps_12 rfl (lv_at hl 0 rfl) ?_
      refine lv_iadd hx hb dX1_overlaps_13 ?_
      refine top_i (y := nI 1) (by decide) ?_
      refine afl hx hb hw hT 2 j (show j < 1026 by omega) (f := bxS S j) rfl 1 (by decide) (by decide) dX1_overlaps_14 ?_
      refine lv_aload_n hx hb dX1_overlaps_15 rfl (lv_at hl 2 rfl) ?_
      refine gf hx hb hown hts hw hT 1 a (show a < 1026 by omega) (ci := 1) rfl rfl (fun _ h => List.mem_cons_of_mem _ (List.mem_append_right _ h)) 0 (by decide) (List.mem_of_getElem? (i := 1) rfl) (v := .ref (g_ad G 2 a)) rfl dX1_overlaps_16 ?_
      refine lv_iconst (v := nI 3) hx hb dX1_overlaps_19 (by decide) ?_
      refine lv_iload_n hx hb dX1_overlaps_20 rfl (lv_at hl 0 rfl) ?_
      refine lv_iadd hx hb dX1_overlaps_21 ?_
      refine top_i (y := nI 4) (by decide) ?_
      refine afl hx hb hw hT 2 a (show a < 1026 by omega) (f := bxS S a) rfl 4 (by decide) (by decide) dX1_overlaps_22 ?_
      refine fc_lgt (x := bxS S j 1) (y := bxS S a 4) (tgt := 47) hx hb dX1_overlaps_23 dX1_overlaps_24 (by decide) (fun h5 => ?_) (fun h5 => ?_)
      · skip
        refine lv_iconst (v := nI 0) hx hb dX1_overlaps_47 (by decide) ?_
        refine top_i (y := bI false) (by decide) ?_
        exact ri hx hb hlk hr hw hS (congrArg bI (by simp [ovF, h2, h3, h5])) (bI_nar _) (Nat.le_of_ble_eq_true rfl) (Nat.le_of_ble_eq_true rfl) dX1_overlaps_48
      · skip
        refine lv_aload_n hx hb dX1_overlaps_27 rfl (lv_at hl 2 rfl) ?_
        refine gf hx hb hown hts hw hT 1 a (show a < 1026 by omega) (ci := 1) rfl rfl (fun _ h => List.mem_cons_of_mem _ (List.mem_append_right _ h)) 0 (by decide) (List.mem_of_getElem? (i := 1) rfl) (v := .ref (g_ad G 2 a)) rfl dX1_overlaps_28 ?_
        refine lv_iconst (v := nI 0) hx hb dX1_overlaps_31 (by decide) ?_
        refine lv_iload_n hx hb dX1_overlaps_32 rfl (lv_at hl 0 rfl) ?_
        refine lv_iadd hx hb dX1_overlaps_33 ?_
        refine top_i (y := nI 1) (by decide) ?_
        refine afl hx hb hw hT 2 a (show a < 1026 by omega) (f := bxS S a) rfl 1 (by decide) (by decide) dX1_overlaps_34 ?_
        refine lv_aload_n hx hb dX1_overlaps_35 rfl (lv_at hl 1 rfl) ?_
        refine gf hx hb hown hts hw hT 1 j (show j < 1026 by omega) (ci := 1) rfl rfl (fun _ h => List.mem_cons_of_mem _ (List.mem_append_right _ h)) 0 (by decide) (List.mem_of_getElem? (i := 1) rfl) (v := .ref (g_ad G 2 j)) rfl dX1_overlaps_36 ?_
        refine lv_iconst (v := nI 3) hx hb dX1_overlaps_39 (by decide) ?_
        refine lv_iload_n hx hb dX1_overlaps_40 rfl (lv_at hl 0 rfl) ?_
        refine lv_iadd hx hb dX1_overlaps_41 ?_
        refine top_i (y := nI 4) (by decide) ?_
        refine afl hx hb hw hT 2 j (show j < 1026 by omega) (f := bxS S j) rfl 4 (by decide) (by decide) dX1_overlaps_42 ?_
        refine fc_lle (x := bxS S a 1) (y := bxS S j 4) (tgt := 49) hx hb dX1_overlaps_43 dX1_overlaps_44 (by decide) (fun h6 => ?_) (fun h6 => ?_)
        · skip
          refine lv_iinc (v := nI 2) (lv' := [(2, .int (nI 2)), (0, .ref (g_ad G 1 j)), (1, .ref (g_ad G 1 a))]) hx hb dX1_overlaps_49 hl (k := 0) rfl (by decide) (by decide) rfl (fun ls hl => ?_)
          refine lv_goto (tgt := 2) hx hb dX1_overlaps_52 (by decide) ?_
          refine lv_iload_n hx hb dX1_overlaps_2 rfl (lv_at hl 0 rfl) ?_
          refine lv_iconst (v := nI 3) hx hb dX1_overlaps_3 (by decide) ?_
          refine lv_icmp_ge (tgt := 55) hx hb dX1_overlaps_4 (by decide) (fun q => absurd q (by decide)) (fun _ => ?_)
          refine lv_aload_n hx hb dX1_overlaps_7 rfl (lv_at hl 1 rfl) ?_
          refine gf hx hb hown hts hw hT 1 j (show j < 1026 by omega) (ci := 1) rfl rfl (fun _ h => List.mem_cons_of_mem _ (List.mem_append_right _ h)) 0 (by decide) (List.mem_of_getElem? (i := 1) rfl) (v := .ref (g_ad G 2 j)) rfl dX1_overlaps_8 ?_
          refine lv_iconst (v := nI 0) hx hb dX1_overlaps_11 (by decide) ?_
          refine lv_iload_n hx hb dX1_overlaps_12 rfl (lv_at hl 0 rfl) ?_
          refine lv_iadd hx hb dX1_overlaps_13 ?_
          refine top_i (y := nI 2) (by decide) ?_
          refine afl hx hb hw hT 2 j (show j < 1026 by omega) (f := bxS S j) rfl 2 (by decide) (by decide) dX1_overlaps_14 ?_
          refine lv_aload_n hx hb dX1_overlaps_15 rfl (lv_at hl 2 rfl) ?_
          refine gf hx hb hown hts hw hT 1 a (show a < 1026 by omega) (ci := 1) rfl rfl (fun _ h => List.mem_cons_of_mem _ (List.mem_append_right _ h)) 0 (by decide) (List.mem_of_getElem? (i := 1) rfl) (v := .ref (g_ad G 2 a)) rfl dX1_overlaps_16 ?_
          refine lv_iconst (v := nI 3) hx hb dX1_overlaps_19 (by decide) ?_
          refine lv_iload_n hx hb dX1_overlaps_20 rfl (lv_at hl 0 rfl) ?_
          refine lv_iadd hx hb dX1_overlaps_21 ?_
          refine top_i (y := nI 5) (by decide) ?_
          refine afl hx hb hw hT 2 a (show a < 1026 by omega) (f := bxS S a) rfl 5 (by decide) (by decide) dX1_overlaps_22 ?_
          refine fc_lgt (x := bxS S j 2) (y := bxS S a 5) (tgt := 47) hx hb dX1_overlaps_23 dX1_overlaps_24 (by decide) (fun h8 => ?_) (fun h8 => ?_)
          · skip
            refine lv_iconst (v := nI 0) hx hb dX1_overlaps_47 (by decide) ?_
            refine top_i (y := bI false) (by decide) ?_
            exact ri hx hb hlk hr hw hS (congrArg bI (by simp [ovF, h2, h3, h5, h6, h8])) (bI_nar _) (Nat.le_of_ble_eq_true rfl) (Nat.le_of_ble_eq_true rfl) dX1_overlaps_48
          · skip
            refine lv_aload_n hx hb dX1_overlaps_27 rfl (lv_at hl 2 rfl) ?_
            refine gf hx hb hown hts hw hT 1 a (show a < 1026 by omega) (ci := 1) rfl rfl (fun _ h => List.mem_cons_of_mem _ (List.mem_append_right _ h)) 0 (by decide) (List.mem_of_getElem? (i := 1) rfl) (v := .ref (g_ad G 2 a)) rfl dX1_overlaps_28 ?_
            refine lv_iconst (v := nI 0) hx hb dX1_overlaps_31 (by decide) ?_
            refine lv_iload_n hx hb dX1_overlaps_32 rfl (lv_at hl 0 rfl) ?_
            refine lv_iadd hx hb dX1_overlaps_33 ?_
            refine top_i (y := nI 2) (by decide) ?_
            refine afl hx hb hw hT 2 a (show a < 1026 by omega) (f := bxS S a) rfl 2 (by decide) (by decide) dX1_overlaps_34 ?_
            refine lv_aload_n hx hb dX1_overlaps_35 rfl (lv_at hl 1 rfl) ?_
            refine gf hx hb hown hts hw hT 1 j (show j < 1026 by omega) (ci := 1) rfl rfl (fun _ h => List.mem_cons_of_mem _ (List.mem_append_right _ h)) 0 (by decide) (List.mem_of_getElem? (i := 1) rfl) (v := .ref (g_ad G 2 j)) rfl dX1_overlaps_36 ?_
            refine lv_iconst (v := nI 3) hx hb dX1_overlaps_39 (by decide) ?_
            refine lv_iload_n hx hb dX1_overlaps_40 rfl (lv_at hl 0 rfl) ?_
            refine lv_iadd hx hb dX1_overlaps_41 ?_
            refine top_i (y := nI 5) (by decide) ?_
            refine afl hx hb hw hT 2 j (show j < 1026 by omega) (f := bxS S j) rfl 5 (by decide) (by decide) dX1_overlaps_42 ?_
            refine fc_lle (x := bxS S a 2) (y := bxS S j 5) (tgt := 49) hx hb dX1_overlaps_43 dX1_overlaps_44 (by decide) (fun h9 => ?_) (fun h9 => ?_)
            · skip
              refine lv_iinc (v := nI 3) (lv' := [(2, .int (nI 3)), (0, .ref (g_ad G 1 j)), (1, .ref (g_ad G 1 a))]) hx hb dX1_overlaps_49 hl (k := 0) rfl (by decide) (by decide) rfl (fun ls hl => ?_)
              refine lv_goto (tgt := 2) hx hb dX1_overlaps_52 (by decide) ?_
              refine lv_iload_n hx hb dX1_overlaps_2 rfl (lv_at hl 0 rfl) ?_
              refine lv_iconst (v := nI 3) hx hb dX1_overlaps_3 (by decide) ?_
              refine lv_icmp_ge (tgt := 55) hx hb dX1_overlaps_4 (by decide) (fun _ => ?_) (fun q => absurd (by decide) q)
              refine lv_iconst (v := nI 1) hx hb dX1_overlaps_55 (by decide) ?_
              refine top_i (y := bI true) (by decide) ?_
              exact ri hx hb hlk hr hw hS (congrArg bI (by simp [ovF, h2, h3, h5, h6, h8, h9])) (bI_nar _) (Nat.le_of_ble_eq_true rfl) (Nat.le_of_ble_eq_true rfl) dX1_overlaps_56
            · skip
              refine lv_iconst (v := nI 0) hx hb dX1_overlaps_47 (by decide) ?_
              refine top_i (y := bI false) (by decide) ?_
              exact ri hx hb hlk hr hw hS (congrArg bI (by simp [ovF, h2, h3, h5, h6, h8, h9])) (bI_nar _) (Nat.le_of_ble_eq_true rfl) (Nat.le_of_ble_eq_true rfl) dX1_overlaps_48
        · skip
          refine lv_iconst (v := nI 0) hx hb dX1_overlaps_47 (by decide) ?_
          refine top_i (y := bI false) (by decide) ?_
          exact ri hx hb hlk hr hw hS (congrArg bI (by simp [ovF, h2, h3, h5, h6])) (bI_nar _) (Nat.le_of_ble_eq_true rfl) (Nat.le_of_ble_eq_true rfl) dX1_overlaps_48
    · skip
      refine lv_iconst (v := nI 0) hx hb dX1_overlaps_47 (by decide) ?_
      refine top_i (y := bI false) (by decide) ?_
      exact ri hx hb hlk hr hw hS (congrArg bI (by simp [ovF, h2, h3])) (bI_nar _) (Nat.le_of_ble_eq_true rfl) (Nat.le_of_ble_eq_true rfl) dX1_overlaps_48
set_option maxRecDepth 100000 in
set_option maxHeartbeats 1000000 in
theorem c_liesIn (l : Launch) (G : Gm) (S : St) (j : Nat) (hj : j < 1026) (a : Nat) (ha : a < 1026) : Pi l yX1_liesIn wsX1_liesIn ({ frames := 0, cells := 0, slots := 0, locals := 0 } : Room) [.ref (g_ad G 1 j), .ref (g_ad G 1 a)] G S (bI (liF (bxS S j) (bxS S a))) S := by
  refine ent (cc := cX1_liesIn) (maxL := 3) (ret := (some .boolean)) (by decide) rfl (Nat.le_of_ble_eq_true rfl) ?_
  intro p e s m below meth c ls C hw hT hS hl
  obtain ⟨hx, hb, hr, hml, hown, hts, hlk⟩ := C
  have hl : lv_has ls 3 [(0, .ref (g_ad G 1 j)), (1, .ref (g_ad G 1 a))] := hl
  refine lv_iconst (v := nI 0) hx hb dX1_liesIn_0 (by decide) ?_
  refine lv_istore_n (lv' := [(2, .int (nI 0)), (0, .ref (g_ad G 1 j)), (1, .ref (g_ad G 1 a))]) hx hb dX1_liesIn_1 rfl hl (by decide) rfl (fun ls hl => ?_)
  refine lv_iload_n hx hb dX1_liesIn_2 rfl (lv_at hl 0 rfl) ?_
  refine lv_iconst (v := nI 3) hx hb dX1_liesIn_3 (by decide) ?_
  refine lv_icmp_ge (tgt := 55) hx hb dX1_liesIn_4 (by decide) (fun q => absurd q (by decide)) (fun _ => ?_)
  refine lv_aload_n hx hb dX1_liesIn_7 rfl (lv_at hl 1 rfl) ?_
  refine gf hx hb hown hts hw hT 1 j (show j < 1026 by omega) (ci := 1) rfl rfl (fun _ h => List.mem_cons_of_mem _ (List.mem_append_right _ h)) 0 (by decide) (List.mem_of_getElem? (i := 1) rfl) (v := .ref (g_ad G 2 j)) rfl dX1_liesIn_8 ?_
  refine lv_iconst (v := nI 0) hx hb dX1_liesIn_11 (by decide) ?_
  refine lv_iload_n hx hb dX1_liesIn_12 rfl (lv_at hl 0 rfl) ?_
  refine lv_iadd hx hb dX1_liesIn_13 ?_
  refine top_i (y := nI 0) (by decide) ?_
  refine afl hx hb hw hT 2 j (show j < 1026 by omega) (f := bxS S j) rfl 0 (by decide) (by decide) dX1_liesIn_14 ?_
  refine lv_aload_n hx hb dX1_liesIn_15 rfl (lv_at hl 2 rfl) ?_
  refine gf hx hb hown hts hw hT 1 a (show a < 1026 by omega) (ci := 1) rfl rfl (fun _ h => List.mem_cons_of_mem _ (List.mem_append_right _ h)) 0 (by decide) (List.mem_of_getElem? (i := 1) rfl) (v := .ref (g_ad G 2 a)) rfl dX1_liesIn_16 ?_
  refine lv_iconst (v := nI 0) hx hb dX1_liesIn_19 (by decide) ?_
  refine lv_iload_n hx hb dX1_liesIn_20 rfl (lv_at hl 0 rfl) ?_
  refine lv_iadd hx hb dX1_liesIn_21 ?_
  refine top_i (y := nI 0) (by decide) ?_
  refine afl hx hb hw hT 2 a (show a < 1026 by omega) (f := bxS S a) rfl 0 (by decide) (by decide) dX1_liesIn_22 ?_
  refine fc_glt (x := bxS S j 0) (y := bxS S a 0) (tgt := 47) hx hb dX1_liesIn_23 dX1_liesIn_24 (by decide) (fun h2 => ?_) (fun h2 => ?_)
  · skip
    refine lv_iconst (v := nI 0) hx hb dX1_liesIn_47 (by decide) ?_
    refine top_i (y := bI false) (by decide) ?_
    exact ri hx hb hlk hr hw hS (congrArg bI (by simp [liF, h2])) (bI_nar _) (Nat.le_of_ble_eq_true rfl) (Nat.le_of_ble_eq_true rfl) dX1_liesIn_48
  · skip
    refine lv_aload_n hx hb dX1_liesIn_27 rfl (lv_at hl 1 rfl) ?_
    refine gf hx hb hown hts hw hT 1 j (show j < 1026 by omega) (ci := 1) rfl rfl (fun _ h => List.mem_cons_of_mem _ (List.mem_append_right _ h)) 0 (by decide) (List.mem_of_getElem? (i := 1) rfl) (v := .ref (g_ad G 2 j)) rfl dX1_liesIn_28 ?_
    refine lv_iconst (v := nI 3) hx hb dX1_liesIn_31 (by decide) ?_
    refine lv_iload_n hx hb dX1_liesIn_32 rfl (lv_at hl 0 rfl) ?_
    refine lv_iadd hx hb dX1_liesIn_33 ?_
    refine top_i (y := nI 3) (by decide) ?_
    refine afl hx hb hw hT 2 j (show j < 1026 by omega) (f := bxS S j) rfl 3 (by decide) (by decide) dX1_liesIn_34 ?_
    refine lv_aload_n hx hb dX1_liesIn_35 rfl (lv_at hl 2 rfl) ?_
    refine gf hx hb hown hts hw hT 1 a (show a < 1026 by omega) (ci := 1) rfl rfl (fun _ h => List.mem_cons_of_mem _ (List.mem_append_right _ h)) 0 (by decide) (List.mem_of_getElem? (i := 1) rfl) (v := .ref (g_ad G 2 a)) rfl dX1_liesIn_36 ?_
    refine lv_iconst (v := nI 3) hx hb dX1_liesIn_39 (by decide) ?_
    refine lv_iload_n hx hb dX1_liesIn_40 rfl (lv_at hl 0 rfl) ?_
    refine lv_iadd hx hb dX1_liesIn_41 ?_
    refine top_i (y := nI 3) (by decide) ?_
    refine afl hx hb hw hT 2 a (show a < 1026 by omega) (f := bxS S a) rfl 3 (by decide) (by decide) dX1_liesIn_42 ?_
    refine fc_lle (x := bxS S j 3) (y := bxS S a 3) (tgt := 49) hx hb dX1_liesIn_43 dX1_liesIn_44 (by decide) (fun h3 => ?_) (fun h3 => ?_)
    · skip
      refine lv_iinc (v := nI 1) (lv' := [(2, .int (nI 1)), (0, .ref (g_ad G 1 j)), (1, .ref (g_ad G 1 a))]) hx hb dX1_liesIn_49 hl (k := 0) rfl (by decide) (by decide) rfl (fun ls hl => ?_)
      refine lv_goto (tgt := 2) hx hb dX1_liesIn_52 (by decide) ?_
      refine lv_iload_n hx hb dX1_liesIn_2 rfl (lv_at hl 0 rfl) ?_
      refine lv_iconst (v := nI 3) hx hb dX1_liesIn_3 (by decide) ?_
      refine lv_icmp_ge (tgt := 55) hx hb dX1_liesIn_4 (by decide) (fun q => absurd q (by decide)) (fun _ => ?_)
      refine lv_aload_n hx hb dX1_liesIn_7 rfl (lv_at hl 1 rfl) ?_
      refine gf hx hb hown hts hw hT 1 j (show j < 1026 by omega) (ci := 1) rfl rfl (fun _ h => List.mem_cons_of_mem _ (List.mem_append_right _ h)) 0 (by decide) (List.mem_of_getElem? (i := 1) rfl) (v := .ref (g_ad G 2 j)) rfl dX1_liesIn_8 ?_
      refine lv_iconst (v := nI 0) hx hb dX1_liesIn_11 (by decide) ?_
      refine lv_iload_n hx hb dX1_liesIn_12 rfl (lv_at hl 0 rfl) ?_
      refine lv_iadd hx hb dX1_liesIn_13 ?_
      refine top_i (y := nI 1) (by decide) ?_
      refine afl hx hb hw hT 2 j (show j < 1026 by omega) (f := bxS S j) rfl 1 (by decide) (by decide) dX1_liesIn_14 ?_
      refine lv_aload_n hx hb dX1_liesIn_15 rfl (lv_at hl 2 rfl) ?_
      refine gf hx hb hown hts hw hT 1 a (show a < 1026 by omega) (ci := 1) rfl rfl (fun _ h => List.mem_cons_of_mem _ (List.mem_append_right _ h)) 0 (by decide) (List.mem_of_getElem? (i := 1) rfl) (v := .ref (g_ad G 2 a)) rfl dX1_liesIn_16 ?_
      refine lv_iconst (v := nI 0) hx hb dX1_liesIn_19 (by decide) ?_
      refine lv_iload_n hx hb dX1_liesIn_20 rfl (lv_at hl 0 rfl) ?_
      refine lv_iadd hx hb dX1_liesIn_21 ?_
      refine top_i (y := nI 1) (by decide) ?_
      refine afl hx hb hw hT 2 a (show a < 1026 by omega) (f := bxS S a) rfl 1 (by decide) (by decide) dX1_liesIn_22 ?_
      refine fc_glt (x := bxS S j 1) (y := bxS S a 1) (tgt := 47) hx hb dX1_liesIn_23 dX1_liesIn_24 (by decide) (fun h5 => ?_) (fun h5 => ?_)
      · skip
        refine lv_iconst (v := nI 0) hx hb dX1_liesIn_47 (by decide) ?_
        refine top_i (y := bI false) (by decide) ?_
        exact ri hx hb hlk hr hw hS (congrArg bI (by simp [liF, h2, h3, h5])) (bI_nar _) (Nat.le_of_ble_eq_true rfl) (Nat.le_of_ble_eq_true rfl) dX1_liesIn_48
      · skip
        refine lv_aload_n hx hb dX1_liesIn_27 rfl (lv_at hl 1 rfl) ?_
        refine gf hx hb hown hts hw hT 1 j (show j < 1026 by omega) (ci := 1) rfl rfl (fun _ h => List.mem_cons_of_mem _ (List.mem_append_right _ h)) 0 (by decide) (List.mem_of_getElem? (i := 1) rfl) (v := .ref (g_ad G 2 j)) rfl dX1_liesIn_28 ?_
        refine lv_iconst (v := nI 3) hx hb dX1_liesIn_31 (by decide) ?_
        refine lv_iload_n hx hb dX1_liesIn_32 rfl (lv_at hl 0 rfl) ?_
        refine lv_iadd hx hb dX1_liesIn_33 ?_
        refine top_i (y := nI 4) (by decide) ?_
        refine afl hx hb hw hT 2 j (show j < 1026 by omega) (f := bxS S j) rfl 4 (by decide) (by decide) dX1_liesIn_34 ?_
        refine lv_aload_n hx hb dX1_liesIn_35 rfl (lv_at hl 2 rfl) ?_
        refine gf hx hb hown hts hw hT 1 a (show a < 1026 by omega) (ci := 1) rfl rfl (fun _ h => List.mem_cons_of_mem _ (List.mem_append_right _ h)) 0 (by decide) (List.mem_of_getElem? (i := 1) rfl) (v := .ref (g_ad G 2 a)) rfl dX1_liesIn_36 ?_
        refine lv_iconst (v := nI 3) hx hb dX1_liesIn_39 (by decide) ?_
        refine lv_iload_n hx hb dX1_liesIn_40 rfl (lv_at hl 0 rfl) ?_
        refine lv_iadd hx hb dX1_liesIn_41 ?_
        refine top_i (y := nI 4) (by decide) ?_
        refine afl hx hb hw hT 2 a (show a < 1026 by omega) (f := bxS S a) rfl 4 (by decide) (by decide) dX1_liesIn_42 ?_
        refine fc_lle (x := bxS S j 4) (y := bxS S a 4) (tgt := 49) hx hb dX1_liesIn_43 dX1_liesIn_44 (by decide) (fun h6 => ?_) (fun h6 => ?_)
        · skip
          refine lv_iinc (v := nI 2) (lv' := [(2, .int (nI 2)), (0, .ref (g_ad G 1 j)), (1, .ref (g_ad G 1 a))]) hx hb dX1_liesIn_49 hl (k := 0) rfl (by decide) (by decide) rfl (fun ls hl => ?_)
          refine lv_goto (tgt := 2) hx hb dX1_liesIn_52 (by decide) ?_
          refine lv_iload_n hx hb dX1_liesIn_2 rfl (lv_at hl 0 rfl) ?_
          refine lv_iconst (v := nI 3) hx hb dX1_liesIn_3 (by decide) ?_
          refine lv_icmp_ge (tgt := 55) hx hb dX1_liesIn_4 (by decide) (fun q => absurd q (by decide)) (fun _ => ?_)
          refine lv_aload_n hx hb dX1_liesIn_7 rfl (lv_at hl 1 rfl) ?_
          refine gf hx hb hown hts hw hT 1 j (show j < 1026 by omega) (ci := 1) rfl rfl (fun _ h => List.mem_cons_of_mem _ (List.mem_append_right _ h)) 0 (by decide) (List.mem_of_getElem? (i := 1) rfl) (v := .ref (g_ad G 2 j)) rfl dX1_liesIn_8 ?_
          refine lv_iconst (v := nI 0) hx hb dX1_liesIn_11 (by decide) ?_
          refine lv_iload_n hx hb dX1_liesIn_12 rfl (lv_at hl 0 rfl) ?_
          refine lv_iadd hx hb dX1_liesIn_13 ?_
          refine top_i (y := nI 2) (by decide) ?_
          refine afl hx hb hw hT 2 j (show j < 1026 by omega) (f := bxS S j) rfl 2 (by decide) (by decide) dX1_liesIn_14 ?_
          refine lv_aload_n hx hb dX1_liesIn_15 rfl (lv_at hl 2 rfl) ?_
          refine gf hx hb hown hts hw hT 1 a (show a < 1026 by omega) (ci := 1) rfl rfl (fun _ h => List.mem_cons_of_mem _ (List.mem_append_right _ h)) 0 (by decide) (List.mem_of_getElem? (i := 1) rfl) (v := .ref (g_ad G 2 a)) rfl dX1_liesIn_16 ?_
          refine lv_iconst (v := nI 0) hx hb dX1_liesIn_19 (by decide) ?_
          refine lv_iload_n hx hb dX1_liesIn_20 rfl (lv_at hl 0 rfl) ?_
          refine lv_iadd hx hb dX1_liesIn_21 ?_
          refine top_i (y := nI 2) (by decide) ?_
          refine afl hx hb hw hT 2 a (show a < 1026 by omega) (f := bxS S a) rfl 2 (by decide) (by decide) dX1_liesIn_22 ?_
          refine fc_glt (x := bxS S j 2) (y := bxS S a 2) (tgt := 47) hx hb dX1_liesIn_23 dX1_liesIn_24 (by decide) (fun h8 => ?_) (fun h8 => ?_)
          · skip
            refine lv_iconst (v := nI 0) hx hb dX1_liesIn_47 (by decide) ?_
            refine top_i (y := bI false) (by decide) ?_
            exact ri hx hb hlk hr hw hS (congrArg bI (by simp [liF, h2, h3, h5, h6, h8])) (bI_nar _) (Nat.le_of_ble_eq_true rfl) (Nat.le_of_ble_eq_true rfl) dX1_liesIn_48
          · skip
            refine lv_aload_n hx hb dX1_liesIn_27 rfl (lv_at hl 1 rfl) ?_
            refine gf hx hb hown hts hw hT 1 j (show j < 1026 by omega) (ci := 1) rfl rfl (fun _ h => List.mem_cons_of_mem _ (List.mem_append_right _ h)) 0 (by decide) (List.mem_of_getElem? (i := 1) rfl) (v := .ref (g_ad G 2 j)) rfl dX1_liesIn_28 ?_
            refine lv_iconst (v := nI 3) hx hb dX1_liesIn_31 (by decide) ?_
            refine lv_iload_n hx hb dX1_liesIn_32 rfl (lv_at hl 0 rfl) ?_
            refine lv_iadd hx hb dX1_liesIn_33 ?_
            refine top_i (y := nI 5) (by decide) ?_
            refine afl hx hb hw hT 2 j (show j < 1026 by omega) (f := bxS S j) rfl 5 (by decide) (by decide) dX1_liesIn_34 ?_
            refine lv_aload_n hx hb dX1_liesIn_35 rfl (lv_at hl 2 rfl) ?_
            refine gf hx hb hown hts hw hT 1 a (show a < 1026 by omega) (ci := 1) rfl rfl (fun _ h => List.mem_cons_of_mem _ (List.mem_append_right _ h)) 0 (by decide) (List.mem_of_getElem? (i := 1) rfl) (v := .ref (g_ad G 2 a)) rfl dX1_liesIn_36 ?_
            refine lv_iconst (v := nI 3) hx hb dX1_liesIn_39 (by decide) ?_
            refine lv_iload_n hx hb dX1_liesIn_40 rfl (lv_at hl 0 rfl) ?_
            refine lv_iadd hx hb dX1_liesIn_41 ?_
            refine top_i (y := nI 5) (by decide) ?_
            refine afl hx hb hw hT 2 a (show a < 1026 by omega) (f := bxS S a) rfl 5 (by decide) (by decide) dX1_liesIn_42 ?_
            refine fc_lle (x := bxS S j 5) (y := bxS S a 5) (tgt := 49) hx hb dX1_liesIn_43 dX1_liesIn_44 (by decide) (fun h9 => ?_) (fun h9 => ?_)
            · skip
              refine lv_iinc (v := nI 3) (lv' := [(2, .int (nI 3)), (0, .ref (g_ad G 1 j)), (1, .ref (g_ad G 1 a))]) hx hb dX1_liesIn_49 hl (k := 0) rfl (by decide) (by decide) rfl (fun ls hl => ?_)
              refine lv_goto (tgt := 2) hx hb dX1_liesIn_52 (by decide) ?_
              refine lv_iload_n hx hb dX1_liesIn_2 rfl (lv_at hl 0 rfl) ?_
              refine lv_iconst (v := nI 3) hx hb dX1_liesIn_3 (by decide) ?_
              refine lv_icmp_ge (tgt := 55) hx hb dX1_liesIn_4 (by decide) (fun _ => ?_) (fun q => absurd (by decide) q)
              refine lv_iconst (v := nI 1) hx hb dX1_liesIn_55 (by decide) ?_
              refine top_i (y := bI true) (by decide) ?_
              exact ri hx hb hlk hr hw hS (congrArg bI (by simp [liF, h2, h3, h5, h6, h8, h9])) (bI_nar _) (Nat.le_of_ble_eq_true rfl) (Nat.le_of_ble_eq_true rfl) dX1_liesIn_56
            · skip
              refine lv_iconst (v := nI 0) hx hb dX1_liesIn_47 (by decide) ?_
              refine top_i (y := bI false) (by decide) ?_
              exact ri hx hb hlk hr hw hS (congrArg bI (by simp [liF, h2, h3, h5, h6, h8, h9])) (bI_nar _) (Nat.le_of_ble_eq_true rfl) (Nat.le_of_ble_eq_true rfl) dX1_liesIn_48
        · skip
          refine lv_iconst (v := nI 0) hx hb dX1_liesIn_47 (by decide) ?_
          refine top_i (y := bI false) (by decide) ?_
          exact ri hx hb hlk hr hw hS (congrArg bI (by simp [liF, h2, h3, h5, h6])) (bI_nar _) (Nat.le_of_ble_eq_true rfl) (Nat.le_of_ble_eq_true rfl) dX1_liesIn_48
    · skip
      refine lv_iconst (v := nI 0) hx hb dX1_liesIn_47 (by decide) ?_
      refine top_i (y := bI false) (by decide) ?_
      exact ri hx hb hlk hr hw hS (congrArg bI (by simp [liF, h2, h3])) (bI_nar _) (Nat.le_of_ble_eq_true rfl) (Nat.le_of_ble_eq_true rfl) dX1_liesIn_48
set_option maxRecDepth 100000 in
set_option maxHeartbeats 1000000 in
theorem c_setCorner0 (l : Launch) (G : Gm) (S : St) (j : Nat) (hj : j < 1026) (x y z : UInt32) : Pv l yX1_setCorner wsX1_setCorner ({ frames := 0, cells := 0, slots := 0, locals := 0 } : Room) [.ref (g_ad G 1 j), .int (nI 0), .float x, .float y, .float z] G S (boxU S j (va_up (va_up (va_up (bxS S j) 0 x) 1 y) 2 z)) := by
  refine ent (cc := cX1_setCorner) (maxL := 6) (ret := none) (by decide) rfl (Nat.le_of_ble_eq_true rfl) ?_
  intro p e s m below meth c ls C hw hT hS hl
  obtain ⟨hx, hb, hr, hml, hown, hts, hlk⟩ := C
  have hl : lv_has ls 6 [(0, .ref (g_ad G 1 j)), (1, .int (nI 0)), (2, .float x), (3, .float y), (4, .float z)] := hl
  refine lv_iload_n hx hb dX1_setCorner_0 rfl (lv_at hl 1 rfl) ?_
  refine lv_if_ne (tgt := 8) hx hb dX1_setCorner_1 (by decide) (fun q => absurd (by decide) q) (fun _ => ?_)
  refine lv_iconst (v := nI 0) hx hb dX1_setCorner_4 (by decide) ?_
  refine lv_goto (tgt := 9) hx hb dX1_setCorner_5 (by decide) ?_
  refine lv_istore (lv' := [(5, .int (nI 0)), (0, .ref (g_ad G 1 j)), (1, .int (nI 0)), (2, .float x), (3, .float y), (4, .float z)]) hx hb dX1_setCorner_9 hl (by decide) rfl (fun ls hl => ?_)
  refine lv_aload_n hx hb dX1_setCorner_11 rfl (lv_at hl 1 rfl) ?_
  refine gf hx hb hown hts hw hT 1 j (show j < 1026 by omega) (ci := 1) rfl rfl (fun _ h => List.mem_cons_of_mem _ (List.mem_append_right _ h)) 0 (by decide) (List.mem_of_getElem? (i := 1) rfl) (v := .ref (g_ad G 2 j)) rfl dX1_setCorner_12 ?_
  refine lv_iload hx hb dX1_setCorner_15 (lv_at hl 0 rfl) ?_
  refine lv_fload_n hx hb dX1_setCorner_17 rfl (lv_at hl 3 rfl) ?_
  refine afs (S' := (bxU S (va_up (bxS S) j (va_up (bxS S j) 0 x)))) hx hb hw hT hS 2 j (show j < 1026 by omega) (f := bxS S j) rfl 0 (by decide) (by decide) (mup_bx G S j (va_up (bxS S j) 0 x)) dX1_setCorner_18 (fun H locs hw hS => ?_)
  refine lv_aload_n hx hb dX1_setCorner_19 rfl (lv_at hl 1 rfl) ?_
  refine gf hx hb hown hts hw hT 1 j (show j < 1026 by omega) (ci := 1) rfl rfl (fun _ h => List.mem_cons_of_mem _ (List.mem_append_right _ h)) 0 (by decide) (List.mem_of_getElem? (i := 1) rfl) (v := .ref (g_ad G 2 j)) rfl dX1_setCorner_20 ?_
  refine lv_iload hx hb dX1_setCorner_23 (lv_at hl 0 rfl) ?_
  refine lv_iconst (v := nI 1) hx hb dX1_setCorner_25 (by decide) ?_
  refine lv_iadd hx hb dX1_setCorner_26 ?_
  refine top_i (y := nI 1) (by decide) ?_
  refine lv_fload_n hx hb dX1_setCorner_27 rfl (lv_at hl 4 rfl) ?_
  refine afs (S' := (bxU S (va_up (bxS S) j (va_up (va_up (bxS S j) 0 x) 1 y)))) hx hb hw hT hS 2 j (show j < 1026 by omega) (f := va_up (bxS S j) 0 x) (mup_bx G S j _).1 1 (by decide) (by decide) (mup2_bx G S j _ (va_up (va_up (bxS S j) 0 x) 1 y)) dX1_setCorner_28 (fun H locs hw hS => ?_)
  refine lv_aload_n hx hb dX1_setCorner_29 rfl (lv_at hl 1 rfl) ?_
  refine gf hx hb hown hts hw hT 1 j (show j < 1026 by omega) (ci := 1) rfl rfl (fun _ h => List.mem_cons_of_mem _ (List.mem_append_right _ h)) 0 (by decide) (List.mem_of_getElem? (i := 1) rfl) (v := .ref (g_ad G 2 j)) rfl dX1_setCorner_30 ?_
  refine lv_iload hx hb dX1_setCorner_33 (lv_at hl 0 rfl) ?_
  refine lv_iconst (v := nI 2) hx hb dX1_setCorner_35 (by decide) ?_
  refine lv_iadd hx hb dX1_setCorner_36 ?_
  refine top_i (y := nI 2) (by decide) ?_
  refine lv_fload hx hb dX1_setCorner_37 (lv_at hl 5 rfl) ?_
  refine afs (S' := (bxU S (va_up (bxS S) j (va_up (va_up (va_up (bxS S j) 0 x) 1 y) 2 z)))) hx hb hw hT hS 2 j (show j < 1026 by omega) (f := va_up (va_up (bxS S j) 0 x) 1 y) (mup_bx G S j _).1 2 (by decide) (by decide) (mup2_bx G S j _ (va_up (va_up (va_up (bxS S j) 0 x) 1 y) 2 z)) dX1_setCorner_39 (fun H locs hw hS => ?_)
  exact rv hx hb hlk hr hw hS  (Nat.le_of_ble_eq_true rfl) (Nat.le_of_ble_eq_true rfl) dX1_setCorner_40
set_option maxRecDepth 100000 in
set_option maxHeartbeats 1000000 in
theorem c_setCorner3 (l : Launch) (G : Gm) (S : St) (j : Nat) (hj : j < 1026) (x y z : UInt32) : Pv l yX1_setCorner wsX1_setCorner ({ frames := 0, cells := 0, slots := 0, locals := 0 } : Room) [.ref (g_ad G 1 j), .int (nI 3), .float x, .float y, .float z] G S (boxU S j (va_up (va_up (va_up (bxS S j) 3 x) 4 y) 5 z)) := by
  refine ent (cc := cX1_setCorner) (maxL := 6) (ret := none) (by decide) rfl (Nat.le_of_ble_eq_true rfl) ?_
  intro p e s m below meth c ls C hw hT hS hl
  obtain ⟨hx, hb, hr, hml, hown, hts, hlk⟩ := C
  have hl : lv_has ls 6 [(0, .ref (g_ad G 1 j)), (1, .int (nI 3)), (2, .float x), (3, .float y), (4, .float z)] := hl
  refine lv_iload_n hx hb dX1_setCorner_0 rfl (lv_at hl 1 rfl) ?_
  refine lv_if_ne (tgt := 8) hx hb dX1_setCorner_1 (by decide) (fun _ => ?_) (fun q => absurd q (by decide))
  refine lv_iconst (v := nI 3) hx hb dX1_setCorner_8 (by decide) ?_
  refine lv_istore (lv' := [(5, .int (nI 3)), (0, .ref (g_ad G 1 j)), (1, .int (nI 3)), (2, .float x), (3, .float y), (4, .float z)]) hx hb dX1_setCorner_9 hl (by decide) rfl (fun ls hl => ?_)
  refine lv_aload_n hx hb dX1_setCorner_11 rfl (lv_at hl 1 rfl) ?_
  refine gf hx hb hown hts hw hT 1 j (show j < 1026 by omega) (ci := 1) rfl rfl (fun _ h => List.mem_cons_of_mem _ (List.mem_append_right _ h)) 0 (by decide) (List.mem_of_getElem? (i := 1) rfl) (v := .ref (g_ad G 2 j)) rfl dX1_setCorner_12 ?_
  refine lv_iload hx hb dX1_setCorner_15 (lv_at hl 0 rfl) ?_
  refine lv_fload_n hx hb dX1_setCorner_17 rfl (lv_at hl 3 rfl) ?_
  refine afs (S' := (bxU S (va_up (bxS S) j (va_up (bxS S j) 3 x)))) hx hb hw hT hS 2 j (show j < 1026 by omega) (f := bxS S j) rfl 3 (by decide) (by decide) (mup_bx G S j (va_up (bxS S j) 3 x)) dX1_setCorner_18 (fun H locs hw hS => ?_)
  refine lv_aload_n hx hb dX1_setCorner_19 rfl (lv_at hl 1 rfl) ?_
  refine gf hx hb hown hts hw hT 1 j (show j < 1026 by omega) (ci := 1) rfl rfl (fun _ h => List.mem_cons_of_mem _ (List.mem_append_right _ h)) 0 (by decide) (List.mem_of_getElem? (i := 1) rfl) (v := .ref (g_ad G 2 j)) rfl dX1_setCorner_20 ?_
  refine lv_iload hx hb dX1_setCorner_23 (lv_at hl 0 rfl) ?_
  refine lv_iconst (v := nI 1) hx hb dX1_setCorner_25 (by decide) ?_
  refine lv_iadd hx hb dX1_setCorner_26 ?_
  refine top_i (y := nI 4) (by decide) ?_
  refine lv_fload_n hx hb dX1_setCorner_27 rfl (lv_at hl 4 rfl) ?_
  refine afs (S' := (bxU S (va_up (bxS S) j (va_up (va_up (bxS S j) 3 x) 4 y)))) hx hb hw hT hS 2 j (show j < 1026 by omega) (f := va_up (bxS S j) 3 x) (mup_bx G S j _).1 4 (by decide) (by decide) (mup2_bx G S j _ (va_up (va_up (bxS S j) 3 x) 4 y)) dX1_setCorner_28 (fun H locs hw hS => ?_)
  refine lv_aload_n hx hb dX1_setCorner_29 rfl (lv_at hl 1 rfl) ?_
  refine gf hx hb hown hts hw hT 1 j (show j < 1026 by omega) (ci := 1) rfl rfl (fun _ h => List.mem_cons_of_mem _ (List.mem_append_right _ h)) 0 (by decide) (List.mem_of_getElem? (i := 1) rfl) (v := .ref (g_ad G 2 j)) rfl dX1_setCorner_30 ?_
  refine lv_iload hx hb dX1_setCorner_33 (lv_at hl 0 rfl) ?_
  refine lv_iconst (v := nI 2) hx hb dX1_setCorner_35 (by decide) ?_
  refine lv_iadd hx hb dX1_setCorner_36 ?_
  refine top_i (y := nI 5) (by decide) ?_
  refine lv_fload hx hb dX1_setCorner_37 (lv_at hl 5 rfl) ?_
  refine afs (S' := (bxU S (va_up (bxS S) j (va_up (va_up (va_up (bxS S j) 3 x) 4 y) 5 z)))) hx hb hw hT hS 2 j (show j < 1026 by omega) (f := va_up (va_up (bxS S j) 3 x) 4 y) (mup_bx G S j _).1 5 (by decide) (by decide) (mup2_bx G S j _ (va_up (va_up (va_up (bxS S j) 3 x) 4 y) 5 z)) dX1_setCorner_39 (fun H locs hw hS => ?_)
  exact rv hx hb hlk hr hw hS  (Nat.le_of_ble_eq_true rfl) (Nat.le_of_ble_eq_true rfl) dX1_setCorner_40
set_option maxRecDepth 100000 in
set_option maxHeartbeats 1000000 in
theorem c_copyFrom (l : Launch) (G : Gm) (S : St) (j : Nat) (hj : j < 1026) (a : Nat) (ha : a < 1026) (hne : a ≠ j) : Pv l yX1_copyFrom wsX1_copyFrom ({ frames := 1, cells := 0, slots := 0, locals := 60 } : Room) [.ref (g_ad G 1 j), .ref (g_ad G 1 a)] G S (boxU S j (va_cpy (bxS S a) (bxS S j) 0 0 6)) := by
  refine ent (cc := cX1_copyFrom) (maxL := 2) (ret := none) (by decide) rfl (Nat.le_of_ble_eq_true rfl) ?_
  intro p e s m below meth c ls C hw hT hS hl
  obtain ⟨hx, hb, hr, hml, hown, hts, hlk⟩ := C
  have hl : lv_has ls 2 [(0, .ref (g_ad G 1 j)), (1, .ref (g_ad G 1 a))] := hl
  refine lv_aload_n hx hb dX1_copyFrom_0 rfl (lv_at hl 1 rfl) ?_
  refine gf hx hb hown hts hw hT 1 a (show a < 1026 by omega) (ci := 1) rfl rfl (fun _ h => List.mem_cons_of_mem _ (List.mem_append_right _ h)) 0 (by decide) (List.mem_of_getElem? (i := 1) rfl) (v := .ref (g_ad G 2 a)) rfl dX1_copyFrom_1 ?_
  refine lv_iconst (v := nI 0) hx hb dX1_copyFrom_4 (by decide) ?_
  refine lv_aload_n hx hb dX1_copyFrom_5 rfl (lv_at hl 0 rfl) ?_
  refine gf hx hb hown hts hw hT 1 j (show j < 1026 by omega) (ci := 1) rfl rfl (fun _ h => List.mem_cons_of_mem _ (List.mem_append_right _ h)) 0 (by decide) (List.mem_of_getElem? (i := 1) rfl) (v := .ref (g_ad G 2 j)) rfl dX1_copyFrom_6 ?_
  refine lv_iconst (v := nI 0) hx hb dX1_copyFrom_9 (by decide) ?_
  refine lv_bipush (v := nI 6) hx hb dX1_copyFrom_10 (by decide) ?_
  refine cpF (S' := (bxU S (va_up (bxS S) j (va_cpy (bxS S a) (bxS S j) 0 0 6)))) hx hb hml hown hts (List.mem_of_getElem? (i := 2) rfl) (List.mem_of_getElem? (i := 3) rfl) (List.mem_of_getElem? (i := 4) rfl) (List.mem_of_getElem? (i := 5) rfl) hl.1 hw hT hS a j (show a < 1026 by omega) (show j < 1026 by omega) hne (mup_bx G S j (va_cpy (bxS S a) (bxS S j) 0 0 6)) (Nat.le_of_ble_eq_true rfl) (Nat.le_of_ble_eq_true rfl) dX1_copyFrom_12 (fun H locs hw hS => ?_)
  exact rv hx hb hlk hr hw hS  (Nat.le_of_ble_eq_true rfl) (Nat.le_of_ble_eq_true rfl) dX1_copyFrom_15
set_option maxRecDepth 100000 in
set_option maxHeartbeats 1000000 in
theorem c_moveBy (l : Launch) (G : Gm) (S : St) (j : Nat) (hj : j < 1026) (dx dy dz : UInt32) (hn : mvN (bxS S j) dx dy dz) : Pv l yX1_moveBy wsX1_moveBy ({ frames := 0, cells := 0, slots := 0, locals := 0 } : Room) [.ref (g_ad G 1 j), .float dx, .float dy, .float dz] G S (boxU S j (mvF (bxS S j) dx dy dz)) := by
  refine ent (cc := cX1_moveBy) (maxL := 5) (ret := none) (by decide) rfl (Nat.le_of_ble_eq_true rfl) ?_
  intro p e s m below meth c ls C hw hT hS hl
  obtain ⟨hx, hb, hr, hml, hown, hts, hlk⟩ := C
  have hl : lv_has ls 5 [(0, .ref (g_ad G 1 j)), (1, .float dx), (2, .float dy), (3, .float dz)] := hl
  refine lv_iconst (v := nI 0) hx hb dX1_moveBy_0 (by decide) ?_
  refine lv_istore (lv' := [(4, .int (nI 0)), (0, .ref (g_ad G 1 j)), (1, .float dx), (2, .float dy), (3, .float dz)]) hx hb dX1_moveBy_1 hl (by decide) rfl (fun ls hl => ?_)
  refine lv_iload hx hb dX1_moveBy_3 (lv_at hl 0 rfl) ?_
  refine lv_iconst (v := nI 3) hx hb dX1_moveBy_5 (by decide) ?_
  refine lv_icmp_gt (tgt := 71) hx hb dX1_moveBy_6 (by decide) (fun q => absurd q (by decide)) (fun _ => ?_)
  refine lv_aload_n hx hb dX1_moveBy_9 rfl (lv_at hl 1 rfl) ?_
  refine gf hx hb hown hts hw hT 1 j (show j < 1026 by omega) (ci := 1) rfl rfl (fun _ h => List.mem_cons_of_mem _ (List.mem_append_right _ h)) 0 (by decide) (List.mem_of_getElem? (i := 1) rfl) (v := .ref (g_ad G 2 j)) rfl dX1_moveBy_10 ?_
  refine lv_iload hx hb dX1_moveBy_13 (lv_at hl 0 rfl) ?_
  refine lv_aload_n hx hb dX1_moveBy_15 rfl (lv_at hl 1 rfl) ?_
  refine gf hx hb hown hts hw hT 1 j (show j < 1026 by omega) (ci := 1) rfl rfl (fun _ h => List.mem_cons_of_mem _ (List.mem_append_right _ h)) 0 (by decide) (List.mem_of_getElem? (i := 1) rfl) (v := .ref (g_ad G 2 j)) rfl dX1_moveBy_16 ?_
  refine lv_iload hx hb dX1_moveBy_19 (lv_at hl 0 rfl) ?_
  refine afl hx hb hw hT 2 j (show j < 1026 by omega) (f := bxS S j) rfl 0 (by decide) (by decide) dX1_moveBy_21 ?_
  refine lv_fload_n hx hb dX1_moveBy_22 rfl (lv_at hl 2 rfl) ?_
  refine lv_fadd hx hb dX1_moveBy_23 hn.1 ?_
  refine afs (S' := (bxU S (va_up (bxS S) j (va_up (bxS S j) 0 (FP.fadd (bxS S j 0) dx))))) hx hb hw hT hS 2 j (show j < 1026 by omega) (f := bxS S j) rfl 0 (by decide) (by decide) (mup_bx G S j (va_up (bxS S j) 0 (FP.fadd (bxS S j 0) dx))) dX1_moveBy_24 (fun H locs hw hS => ?_)
  refine lv_aload_n hx hb dX1_moveBy_25 rfl (lv_at hl 1 rfl) ?_
  refine gf hx hb hown hts hw hT 1 j (show j < 1026 by omega) (ci := 1) rfl rfl (fun _ h => List.mem_cons_of_mem _ (List.mem_append_right _ h)) 0 (by decide) (List.mem_of_getElem? (i := 1) rfl) (v := .ref (g_ad G 2 j)) rfl dX1_moveBy_26 ?_
  refine lv_iload hx hb dX1_moveBy_29 (lv_at hl 0 rfl) ?_
  refine lv_iconst (v := nI 1) hx hb dX1_moveBy_31 (by decide) ?_
  refine lv_iadd hx hb dX1_moveBy_32 ?_
  refine top_i (y := nI 1) (by decide) ?_
  refine lv_aload_n hx hb dX1_moveBy_33 rfl (lv_at hl 1 rfl) ?_
  refine gf hx hb hown hts hw hT 1 j (show j < 1026 by omega) (ci := 1) rfl rfl (fun _ h => List.mem_cons_of_mem _ (List.mem_append_right _ h)) 0 (by decide) (List.mem_of_getElem? (i := 1) rfl) (v := .ref (g_ad G 2 j)) rfl dX1_moveBy_34 ?_
  refine lv_iload hx hb dX1_moveBy_37 (lv_at hl 0 rfl) ?_
  refine lv_iconst (v := nI 1) hx hb dX1_moveBy_39 (by decide) ?_
  refine lv_iadd hx hb dX1_moveBy_40 ?_
  refine top_i (y := nI 1) (by decide) ?_
  refine afl hx hb hw hT 2 j (show j < 1026 by omega) (f := va_up (bxS S j) 0 (FP.fadd (bxS S j 0) dx)) (mup_bx G S j _).1 1 (by decide) (by decide) dX1_moveBy_41 ?_
  refine top_f (y := bxS S j 1) rfl ?_
  refine lv_fload_n hx hb dX1_moveBy_42 rfl (lv_at hl 3 rfl) ?_
  refine lv_fadd hx hb dX1_moveBy_43 hn.2.1 ?_
  refine afs (S' := (bxU S (va_up (bxS S) j (va_up (va_up (bxS S j) 0 (FP.fadd (bxS S j 0) dx)) 1 (FP.fadd (bxS S j 1) dy))))) hx hb hw hT hS 2 j (show j < 1026 by omega) (f := va_up (bxS S j) 0 (FP.fadd (bxS S j 0) dx)) (mup_bx G S j _).1 1 (by decide) (by decide) (mup2_bx G S j _ (va_up (va_up (bxS S j) 0 (FP.fadd (bxS S j 0) dx)) 1 (FP.fadd (bxS S j 1) dy))) dX1_moveBy_44 (fun H locs hw hS => ?_)
  refine lv_aload_n hx hb dX1_moveBy_45 rfl (lv_at hl 1 rfl) ?_
  refine gf hx hb hown hts hw hT 1 j (show j < 1026 by omega) (ci := 1) rfl rfl (fun _ h => List.mem_cons_of_mem _ (List.mem_append_right _ h)) 0 (by decide) (List.mem_of_getElem? (i := 1) rfl) (v := .ref (g_ad G 2 j)) rfl dX1_moveBy_46 ?_
  refine lv_iload hx hb dX1_moveBy_49 (lv_at hl 0 rfl) ?_
  refine lv_iconst (v := nI 2) hx hb dX1_moveBy_51 (by decide) ?_
  refine lv_iadd hx hb dX1_moveBy_52 ?_
  refine top_i (y := nI 2) (by decide) ?_
  refine lv_aload_n hx hb dX1_moveBy_53 rfl (lv_at hl 1 rfl) ?_
  refine gf hx hb hown hts hw hT 1 j (show j < 1026 by omega) (ci := 1) rfl rfl (fun _ h => List.mem_cons_of_mem _ (List.mem_append_right _ h)) 0 (by decide) (List.mem_of_getElem? (i := 1) rfl) (v := .ref (g_ad G 2 j)) rfl dX1_moveBy_54 ?_
  refine lv_iload hx hb dX1_moveBy_57 (lv_at hl 0 rfl) ?_
  refine lv_iconst (v := nI 2) hx hb dX1_moveBy_59 (by decide) ?_
  refine lv_iadd hx hb dX1_moveBy_60 ?_
  refine top_i (y := nI 2) (by decide) ?_
  refine afl hx hb hw hT 2 j (show j < 1026 by omega) (f := va_up (va_up (bxS S j) 0 (FP.fadd (bxS S j 0) dx)) 1 (FP.fadd (bxS S j 1) dy)) (mup_bx G S j _).1 2 (by decide) (by decide) dX1_moveBy_61 ?_
  refine top_f (y := bxS S j 2) rfl ?_
  refine lv_fload_n hx hb dX1_moveBy_62 rfl (lv_at hl 4 rfl) ?_
  refine lv_fadd hx hb dX1_moveBy_63 hn.2.2.1 ?_
  refine afs (S' := (bxU S (va_up (bxS S) j (va_up (va_up (va_up (bxS S j) 0 (FP.fadd (bxS S j 0) dx)) 1 (FP.fadd (bxS S j 1) dy)) 2 (FP.fadd (bxS S j 2) dz))))) hx hb hw hT hS 2 j (show j < 1026 by omega) (f := va_up (va_up (bxS S j) 0 (FP.fadd (bxS S j 0) dx)) 1 (FP.fadd (bxS S j 1) dy)) (mup_bx G S j _).1 2 (by decide) (by decide) (mup2_bx G S j _ (va_up (va_up (va_up (bxS S j) 0 (FP.fadd (bxS S j 0) dx)) 1 (FP.fadd (bxS S j 1) dy)) 2 (FP.fadd (bxS S j 2) dz))) dX1_moveBy_64 (fun H locs hw hS => ?_)
  refine lv_iinc (v := nI 3) (lv' := [(4, .int (nI 3)), (0, .ref (g_ad G 1 j)), (1, .float dx), (2, .float dy), (3, .float dz)]) hx hb dX1_moveBy_65 hl (k := 0) rfl (by decide) (by decide) rfl (fun ls hl => ?_)
  refine lv_goto (tgt := 3) hx hb dX1_moveBy_68 (by decide) ?_
  refine lv_iload hx hb dX1_moveBy_3 (lv_at hl 0 rfl) ?_
  refine lv_iconst (v := nI 3) hx hb dX1_moveBy_5 (by decide) ?_
  refine lv_icmp_gt (tgt := 71) hx hb dX1_moveBy_6 (by decide) (fun q => absurd q (by decide)) (fun _ => ?_)
  refine lv_aload_n hx hb dX1_moveBy_9 rfl (lv_at hl 1 rfl) ?_
  refine gf hx hb hown hts hw hT 1 j (show j < 1026 by omega) (ci := 1) rfl rfl (fun _ h => List.mem_cons_of_mem _ (List.mem_append_right _ h)) 0 (by decide) (List.mem_of_getElem? (i := 1) rfl) (v := .ref (g_ad G 2 j)) rfl dX1_moveBy_10 ?_
  refine lv_iload hx hb dX1_moveBy_13 (lv_at hl 0 rfl) ?_
  refine lv_aload_n hx hb dX1_moveBy_15 rfl (lv_at hl 1 rfl) ?_
  refine gf hx hb hown hts hw hT 1 j (show j < 1026 by omega) (ci := 1) rfl rfl (fun _ h => List.mem_cons_of_mem _ (List.mem_append_right _ h)) 0 (by decide) (List.mem_of_getElem? (i := 1) rfl) (v := .ref (g_ad G 2 j)) rfl dX1_moveBy_16 ?_
  refine lv_iload hx hb dX1_moveBy_19 (lv_at hl 0 rfl) ?_
  refine afl hx hb hw hT 2 j (show j < 1026 by omega) (f := va_up (va_up (va_up (bxS S j) 0 (FP.fadd (bxS S j 0) dx)) 1 (FP.fadd (bxS S j 1) dy)) 2 (FP.fadd (bxS S j 2) dz)) (mup_bx G S j _).1 3 (by decide) (by decide) dX1_moveBy_21 ?_
  refine top_f (y := bxS S j 3) rfl ?_
  refine lv_fload_n hx hb dX1_moveBy_22 rfl (lv_at hl 2 rfl) ?_
  refine lv_fadd hx hb dX1_moveBy_23 hn.2.2.2.1 ?_
  refine afs (S' := (bxU S (va_up (bxS S) j (va_up (va_up (va_up (va_up (bxS S j) 0 (FP.fadd (bxS S j 0) dx)) 1 (FP.fadd (bxS S j 1) dy)) 2 (FP.fadd (bxS S j 2) dz)) 3 (FP.fadd (bxS S j 3) dx))))) hx hb hw hT hS 2 j (show j < 1026 by omega) (f := va_up (va_up (va_up (bxS S j) 0 (FP.fadd (bxS S j 0) dx)) 1 (FP.fadd (bxS S j 1) dy)) 2 (FP.fadd (bxS S j 2) dz)) (mup_bx G S j _).1 3 (by decide) (by decide) (mup2_bx G S j _ (va_up (va_up (va_up (va_up (bxS S j) 0 (FP.fadd (bxS S j 0) dx)) 1 (FP.fadd (bxS S j 1) dy)) 2 (FP.fadd (bxS S j 2) dz)) 3 (FP.fadd (bxS S j 3) dx))) dX1_moveBy_24 (fun H locs hw hS => ?_)
  refine lv_aload_n hx hb dX1_moveBy_25 rfl (lv_at hl 1 rfl) ?_
  refine gf hx hb hown hts hw hT 1 j (show j < 1026 by omega) (ci := 1) rfl rfl (fun _ h => List.mem_cons_of_mem _ (List.mem_append_right _ h)) 0 (by decide) (List.mem_of_getElem? (i := 1) rfl) (v := .ref (g_ad G 2 j)) rfl dX1_moveBy_26 ?_
  refine lv_iload hx hb dX1_moveBy_29 (lv_at hl 0 rfl) ?_
  refine lv_iconst (v := nI 1) hx hb dX1_moveBy_31 (by decide) ?_
  refine lv_iadd hx hb dX1_moveBy_32 ?_
  refine top_i (y := nI 4) (by decide) ?_
  refine lv_aload_n hx hb dX1_moveBy_33 rfl (lv_at hl 1 rfl) ?_
  refine gf hx hb hown hts hw hT 1 j (show j < 1026 by omega) (ci := 1) rfl rfl (fun _ h => List.mem_cons_of_mem _ (List.mem_append_right _ h)) 0 (by decide) (List.mem_of_getElem? (i := 1) rfl) (v := .ref (g_ad G 2 j)) rfl dX1_moveBy_34 ?_
  refine lv_iload hx hb dX1_moveBy_37 (lv_at hl 0 rfl) ?_
  refine lv_iconst (v := nI 1) hx hb dX1_moveBy_39 (by decide) ?_
  refine lv_iadd hx hb dX1_moveBy_40 ?_
  refine top_i (y := nI 4) (by decide) ?_
  refine afl hx hb hw hT 2 j (show j < 1026 by omega) (f := va_up (va_up (va_up (va_up (bxS S j) 0 (FP.fadd (bxS S j 0) dx)) 1 (FP.fadd (bxS S j 1) dy)) 2 (FP.fadd (bxS S j 2) dz)) 3 (FP.fadd (bxS S j 3) dx)) (mup_bx G S j _).1 4 (by decide) (by decide) dX1_moveBy_41 ?_
  refine top_f (y := bxS S j 4) rfl ?_
  refine lv_fload_n hx hb dX1_moveBy_42 rfl (lv_at hl 3 rfl) ?_
  refine lv_fadd hx hb dX1_moveBy_43 hn.2.2.2.2.1 ?_
  refine afs (S' := (bxU S (va_up (bxS S) j (va_up (va_up (va_up (va_up (va_up (bxS S j) 0 (FP.fadd (bxS S j 0) dx)) 1 (FP.fadd (bxS S j 1) dy)) 2 (FP.fadd (bxS S j 2) dz)) 3 (FP.fadd (bxS S j 3) dx)) 4 (FP.fadd (bxS S j 4) dy))))) hx hb hw hT hS 2 j (show j < 1026 by omega) (f := va_up (va_up (va_up (va_up (bxS S j) 0 (FP.fadd (bxS S j 0) dx)) 1 (FP.fadd (bxS S j 1) dy)) 2 (FP.fadd (bxS S j 2) dz)) 3 (FP.fadd (bxS S j 3) dx)) (mup_bx G S j _).1 4 (by decide) (by decide) (mup2_bx G S j _ (va_up (va_up (va_up (va_up (va_up (bxS S j) 0 (FP.fadd (bxS S j 0) dx)) 1 (FP.fadd (bxS S j 1) dy)) 2 (FP.fadd (bxS S j 2) dz)) 3 (FP.fadd (bxS S j 3) dx)) 4 (FP.fadd (bxS S j 4) dy))) dX1_moveBy_44 (fun H locs hw hS => ?_)
  refine lv_aload_n hx hb dX1_moveBy_45 rfl (lv_at hl 1 rfl) ?_
  refine gf hx hb hown hts hw hT 1 j (show j < 1026 by omega) (ci := 1) rfl rfl (fun _ h => List.mem_cons_of_mem _ (List.mem_append_right _ h)) 0 (by decide) (List.mem_of_getElem? (i := 1) rfl) (v := .ref (g_ad G 2 j)) rfl dX1_moveBy_46 ?_
  refine lv_iload hx hb dX1_moveBy_49 (lv_at hl 0 rfl) ?_
  refine lv_iconst (v := nI 2) hx hb dX1_moveBy_51 (by decide) ?_
  refine lv_iadd hx hb dX1_moveBy_52 ?_
  refine top_i (y := nI 5) (by decide) ?_
  refine lv_aload_n hx hb dX1_moveBy_53 rfl (lv_at hl 1 rfl) ?_
  refine gf hx hb hown hts hw hT 1 j (show j < 1026 by omega) (ci := 1) rfl rfl (fun _ h => List.mem_cons_of_mem _ (List.mem_append_right _ h)) 0 (by decide) (List.mem_of_getElem? (i := 1) rfl) (v := .ref (g_ad G 2 j)) rfl dX1_moveBy_54 ?_
  refine lv_iload hx hb dX1_moveBy_57 (lv_at hl 0 rfl) ?_
  refine lv_iconst (v := nI 2) hx hb dX1_moveBy_59 (by decide) ?_
  refine lv_iadd hx hb dX1_moveBy_60 ?_
  refine top_i (y := nI 5) (by decide) ?_
  refine afl hx hb hw hT 2 j (show j < 1026 by omega) (f := va_up (va_up (va_up (va_up (va_up (bxS S j) 0 (FP.fadd (bxS S j 0) dx)) 1 (FP.fadd (bxS S j 1) dy)) 2 (FP.fadd (bxS S j 2) dz)) 3 (FP.fadd (bxS S j 3) dx)) 4 (FP.fadd (bxS S j 4) dy)) (mup_bx G S j _).1 5 (by decide) (by decide) dX1_moveBy_61 ?_
  refine top_f (y := bxS S j 5) rfl ?_
  refine lv_fload_n hx hb dX1_moveBy_62 rfl (lv_at hl 4 rfl) ?_
  refine lv_fadd hx hb dX1_moveBy_63 hn.2.2.2.2.2 ?_
  refine afs (S' := (bxU S (va_up (bxS S) j (va_up (va_up (va_up (va_up (va_up (va_up (bxS S j) 0 (FP.fadd (bxS S j 0) dx)) 1 (FP.fadd (bxS S j 1) dy)) 2 (FP.fadd (bxS S j 2) dz)) 3 (FP.fadd (bxS S j 3) dx)) 4 (FP.fadd (bxS S j 4) dy)) 5 (FP.fadd (bxS S j 5) dz))))) hx hb hw hT hS 2 j (show j < 1026 by omega) (f := va_up (va_up (va_up (va_up (va_up (bxS S j) 0 (FP.fadd (bxS S j 0) dx)) 1 (FP.fadd (bxS S j 1) dy)) 2 (FP.fadd (bxS S j 2) dz)) 3 (FP.fadd (bxS S j 3) dx)) 4 (FP.fadd (bxS S j 4) dy)) (mup_bx G S j _).1 5 (by decide) (by decide) (mup2_bx G S j _ (va_up (va_up (va_up (va_up (va_up (va_up (bxS S j) 0 (FP.fadd (bxS S j 0) dx)) 1 (FP.fadd (bxS S j 1) dy)) 2 (FP.fadd (bxS S j 2) dz)) 3 (FP.fadd (bxS S j 3) dx)) 4 (FP.fadd (bxS S j 4) dy)) 5 (FP.fadd (bxS S j 5) dz))) dX1_moveBy_64 (fun H locs hw hS => ?_)
  refine lv_iinc (v := nI 6) (lv' := [(4, .int (nI 6)), (0, .ref (g_ad G 1 j)), (1, .float dx), (2, .float dy), (3, .float dz)]) hx hb dX1_moveBy_65 hl (k := 0) rfl (by decide) (by decide) rfl (fun ls hl => ?_)
  refine lv_goto (tgt := 3) hx hb dX1_moveBy_68 (by decide) ?_
  refine lv_iload hx hb dX1_moveBy_3 (lv_at hl 0 rfl) ?_
  refine lv_iconst (v := nI 3) hx hb dX1_moveBy_5 (by decide) ?_
  refine lv_icmp_gt (tgt := 71) hx hb dX1_moveBy_6 (by decide) (fun _ => ?_) (fun q => absurd (by decide) q)
  exact rv hx hb hlk hr hw hS  (Nat.le_of_ble_eq_true rfl) (Nat.le_of_ble_eq_true rfl) dX1_moveBy_71
set_option maxRecDepth 100000 in
set_option maxHeartbeats 1000000 in
theorem c_widenAxis0 (l : Launch) (G : Gm) (S : St) (j : Nat) (hj : j < 1026) (d : UInt32) (hn : waN (bxS S j) 0 d) : Pv l yX1_widenAxis wsX1_widenAxis ({ frames := 0, cells := 0, slots := 0, locals := 0 } : Room) [.ref (g_ad G 1 j), .int (nI 0), .float d] G S (boxU S j (waF (bxS S j) 0 d)) := by
  refine ent (cc := cX1_widenAxis) (maxL := 5) (ret := none) (by decide) rfl (Nat.le_of_ble_eq_true rfl) ?_
  intro p e s m below meth c ls C hw hT hS hl
  obtain ⟨hx, hb, hr, hml, hown, hts, hlk⟩ := C
  have hl : lv_has ls 5 [(0, .ref (g_ad G 1 j)), (1, .int (nI 0)), (2, .float d)] := hl
  refine lv_aload_n hx hb dX1_widenAxis_0 rfl (lv_at hl 0 rfl) ?_
  refine gf hx hb hown hts hw hT 1 j (show j < 1026 by omega) (ci := 1) rfl rfl (fun _ h => List.mem_cons_of_mem _ (List.mem_append_right _ h)) 0 (by decide) (List.mem_of_getElem? (i := 1) rfl) (v := .ref (g_ad G 2 j)) rfl dX1_widenAxis_1 ?_
  refine lv_iconst (v := nI 0) hx hb dX1_widenAxis_4 (by decide) ?_
  refine lv_iload_n hx hb dX1_widenAxis_5 rfl (lv_at hl 1 rfl) ?_
  refine lv_iadd hx hb dX1_widenAxis_6 ?_
  refine top_i (y := nI 0) (by decide) ?_
  refine afl hx hb hw hT 2 j (show j < 1026 by omega) (f := bxS S j) rfl 0 (by decide) (by decide) dX1_widenAxis_7 ?_
  refine lv_ldcf (v := 1048576000) hx hb hown (hts _ (List.mem_of_getElem? (i := 2) rfl)) dX1_widenAxis_8 ?_
  refine lv_fsub hx hb dX1_widenAxis_10 hn.1 ?_
  refine lv_fstore_n (lv' := [(3, .float (FP.fsub (bxS S j 0) 1048576000)), (0, .ref (g_ad G 1 j)), (1, .int (nI 0)), (2, .float d)]) hx hb dX1_widenAxis_11 rfl hl (by decide) rfl (fun ls hl => ?_)
  refine lv_aload_n hx hb dX1_widenAxis_12 rfl (lv_at hl 1 rfl) ?_
  refine gf hx hb hown hts hw hT 1 j (show j < 1026 by omega) (ci := 1) rfl rfl (fun _ h => List.mem_cons_of_mem _ (List.mem_append_right _ h)) 0 (by decide) (List.mem_of_getElem? (i := 1) rfl) (v := .ref (g_ad G 2 j)) rfl dX1_widenAxis_13 ?_
  refine lv_iconst (v := nI 3) hx hb dX1_widenAxis_16 (by decide) ?_
  refine lv_iload_n hx hb dX1_widenAxis_17 rfl (lv_at hl 2 rfl) ?_
  refine lv_iadd hx hb dX1_widenAxis_18 ?_
  refine top_i (y := nI 3) (by decide) ?_
  refine afl hx hb hw hT 2 j (show j < 1026 by omega) (f := bxS S j) rfl 3 (by decide) (by decide) dX1_widenAxis_19 ?_
  refine lv_ldcf (v := 1048576000) hx hb hown (hts _ (List.mem_of_getElem? (i := 2) rfl)) dX1_widenAxis_20 ?_
  refine lv_fadd hx hb dX1_widenAxis_22 hn.2.1 ?_
  refine lv_fstore (lv' := [(4, .float (FP.fadd (bxS S j 3) 1048576000)), (3, .float (FP.fsub (bxS S j 0) 1048576000)), (0, .ref (g_ad G 1 j)), (1, .int (nI 0)), (2, .float d)]) hx hb dX1_widenAxis_23 hl (by decide) rfl (fun ls hl => ?_)
  refine lv_aload_n hx hb dX1_widenAxis_25 rfl (lv_at hl 2 rfl) ?_
  refine gf hx hb hown hts hw hT 1 j (show j < 1026 by omega) (ci := 1) rfl rfl (fun _ h => List.mem_cons_of_mem _ (List.mem_append_right _ h)) 0 (by decide) (List.mem_of_getElem? (i := 1) rfl) (v := .ref (g_ad G 2 j)) rfl dX1_widenAxis_26 ?_
  refine lv_iconst (v := nI 0) hx hb dX1_widenAxis_29 (by decide) ?_
  refine lv_iload_n hx hb dX1_widenAxis_30 rfl (lv_at hl 3 rfl) ?_
  refine lv_iadd hx hb dX1_widenAxis_31 ?_
  refine top_i (y := nI 0) (by decide) ?_
  refine lv_fload_n hx hb dX1_widenAxis_32 rfl (lv_at hl 4 rfl) ?_
  refine lv_fconst0 hx hb dX1_widenAxis_33 ?_
  refine fc_gge (x := d) (y := FP.fconst0) (tgt := 46) hx hb dX1_widenAxis_34 dX1_widenAxis_35 (by decide) (fun h1 => ?_) (fun h1 => ?_)
  · skip
    refine lv_fload_n hx hb dX1_widenAxis_46 rfl (lv_at hl 1 rfl) ?_
    refine afs (S' := (bxU S (va_up (bxS S) j (va_up (bxS S j) 0 (FP.fsub (bxS S j 0) 1048576000))))) hx hb hw hT hS 2 j (show j < 1026 by omega) (f := bxS S j) rfl 0 (by decide) (by decide) (mup_bx G S j (va_up (bxS S j) 0 (FP.fsub (bxS S j 0) 1048576000))) dX1_widenAxis_47 (fun H locs hw hS => ?_)
    refine lv_aload_n hx hb dX1_widenAxis_48 rfl (lv_at hl 2 rfl) ?_
    refine gf hx hb hown hts hw hT 1 j (show j < 1026 by omega) (ci := 1) rfl rfl (fun _ h => List.mem_cons_of_mem _ (List.mem_append_right _ h)) 0 (by decide) (List.mem_of_getElem? (i := 1) rfl) (v := .ref (g_ad G 2 j)) rfl dX1_widenAxis_49 ?_
    refine lv_iconst (v := nI 3) hx hb dX1_widenAxis_52 (by decide) ?_
    refine lv_iload_n hx hb dX1_widenAxis_53 rfl (lv_at hl 3 rfl) ?_
    refine lv_iadd hx hb dX1_widenAxis_54 ?_
    refine top_i (y := nI 3) (by decide) ?_
    refine lv_fload_n hx hb dX1_widenAxis_55 rfl (lv_at hl 4 rfl) ?_
    refine lv_fconst0 hx hb dX1_widenAxis_56 ?_
    refine fc_gge (x := d) (y := FP.fconst0) (tgt := 66) hx hb dX1_widenAxis_57 dX1_widenAxis_58 (by decide) (fun _ => ?_) (fun q => Bool.noConfusion (h1.symm.trans q))
    refine lv_fload hx hb dX1_widenAxis_66 (lv_at hl 0 rfl) ?_
    refine lv_fload_n hx hb dX1_widenAxis_68 rfl (lv_at hl 4 rfl) ?_
    refine lv_fconst2 hx hb dX1_widenAxis_69 ?_
    refine lv_fmul hx hb dX1_widenAxis_70 hn.2.2.1 ?_
    refine lv_fadd hx hb dX1_widenAxis_71 hn.2.2.2.2 ?_
    refine afs (S' := (bxU S (va_up (bxS S) j (va_up (va_up (bxS S j) 0 (FP.fsub (bxS S j 0) 1048576000)) 3 (FP.fadd (FP.fadd (bxS S j 3) 1048576000) (FP.fmul d FP.fconst2)))))) hx hb hw hT hS 2 j (show j < 1026 by omega) (f := va_up (bxS S j) 0 (FP.fsub (bxS S j 0) 1048576000)) (mup_bx G S j _).1 3 (by decide) (by decide) (mup2_bx G S j _ (va_up (va_up (bxS S j) 0 (FP.fsub (bxS S j 0) 1048576000)) 3 (FP.fadd (FP.fadd (bxS S j 3) 1048576000) (FP.fmul d FP.fconst2)))) dX1_widenAxis_72 (fun H locs hw hS => ?_)
    exact rv hx hb hlk hr (by rw [show waF (bxS S j) 0 d = va_up (va_up (bxS S j) 0 (FP.fsub (bxS S j 0) 1048576000)) 3 (FP.fadd (FP.fadd (bxS S j 3) 1048576000) (FP.fmul d FP.fconst2)) from if_neg (by rw [h1]; decide)]; exact hw) hS  (Nat.le_of_ble_eq_true rfl) (Nat.le_of_ble_eq_true rfl) dX1_widenAxis_73
  · skip
    refine lv_fload_n hx hb dX1_widenAxis_38 rfl (lv_at hl 1 rfl) ?_
    refine lv_fload_n hx hb dX1_widenAxis_39 rfl (lv_at hl 4 rfl) ?_
    refine lv_fconst2 hx hb dX1_widenAxis_40 ?_
    refine lv_fmul hx hb dX1_widenAxis_41 hn.2.2.1 ?_
    refine lv_fadd hx hb dX1_widenAxis_42 hn.2.2.2.1 ?_
    refine lv_goto (tgt := 47) hx hb dX1_widenAxis_43 (by decide) ?_
    refine afs (S' := (bxU S (va_up (bxS S) j (va_up (bxS S j) 0 (FP.fadd (FP.fsub (bxS S j 0) 1048576000) (FP.fmul d FP.fconst2)))))) hx hb hw hT hS 2 j (show j < 1026 by omega) (f := bxS S j) rfl 0 (by decide) (by decide) (mup_bx G S j (va_up (bxS S j) 0 (FP.fadd (FP.fsub (bxS S j 0) 1048576000) (FP.fmul d FP.fconst2)))) dX1_widenAxis_47 (fun H locs hw hS => ?_)
    refine lv_aload_n hx hb dX1_widenAxis_48 rfl (lv_at hl 2 rfl) ?_
    refine gf hx hb hown hts hw hT 1 j (show j < 1026 by omega) (ci := 1) rfl rfl (fun _ h => List.mem_cons_of_mem _ (List.mem_append_right _ h)) 0 (by decide) (List.mem_of_getElem? (i := 1) rfl) (v := .ref (g_ad G 2 j)) rfl dX1_widenAxis_49 ?_
    refine lv_iconst (v := nI 3) hx hb dX1_widenAxis_52 (by decide) ?_
    refine lv_iload_n hx hb dX1_widenAxis_53 rfl (lv_at hl 3 rfl) ?_
    refine lv_iadd hx hb dX1_widenAxis_54 ?_
    refine top_i (y := nI 3) (by decide) ?_
    refine lv_fload_n hx hb dX1_widenAxis_55 rfl (lv_at hl 4 rfl) ?_
    refine lv_fconst0 hx hb dX1_widenAxis_56 ?_
    refine fc_gge (x := d) (y := FP.fconst0) (tgt := 66) hx hb dX1_widenAxis_57 dX1_widenAxis_58 (by decide) (fun q => Bool.noConfusion (h1.symm.trans q)) (fun _ => ?_)
    refine lv_fload hx hb dX1_widenAxis_61 (lv_at hl 0 rfl) ?_
    refine lv_goto (tgt := 72) hx hb dX1_widenAxis_63 (by decide) ?_
    refine afs (S' := (bxU S (va_up (bxS S) j (va_up (va_up (bxS S j) 0 (FP.fadd (FP.fsub (bxS S j 0) 1048576000) (FP.fmul d FP.fconst2))) 3 (FP.fadd (bxS S j 3) 1048576000))))) hx hb hw hT hS 2 j (show j < 1026 by omega) (f := va_up (bxS S j) 0 (FP.fadd (FP.fsub (bxS S j 0) 1048576000) (FP.fmul d FP.fconst2))) (mup_bx G S j _).1 3 (by decide) (by decide) (mup2_bx G S j _ (va_up (va_up (bxS S j) 0 (FP.fadd (FP.fsub (bxS S j 0) 1048576000) (FP.fmul d FP.fconst2))) 3 (FP.fadd (bxS S j 3) 1048576000))) dX1_widenAxis_72 (fun H locs hw hS => ?_)
    exact rv hx hb hlk hr (by rw [show waF (bxS S j) 0 d = va_up (va_up (bxS S j) 0 (FP.fadd (FP.fsub (bxS S j 0) 1048576000) (FP.fmul d FP.fconst2))) 3 (FP.fadd (bxS S j 3) 1048576000) from if_pos h1]; exact hw) hS  (Nat.le_of_ble_eq_true rfl) (Nat.le_of_ble_eq_true rfl) dX1_widenAxis_73
set_option maxRecDepth 100000 in
set_option maxHeartbeats 1000000 in
theorem c_widenAxis1 (l : Launch) (G : Gm) (S : St) (j : Nat) (hj : j < 1026) (d : UInt32) (hn : waN (bxS S j) 1 d) : Pv l yX1_widenAxis wsX1_widenAxis ({ frames := 0, cells := 0, slots := 0, locals := 0 } : Room) [.ref (g_ad G 1 j), .int (nI 1), .float d] G S (boxU S j (waF (bxS S j) 1 d)) := by
  refine ent (cc := cX1_widenAxis) (maxL := 5) (ret := none) (by decide) rfl (Nat.le_of_ble_eq_true rfl) ?_
  intro p e s m below meth c ls C hw hT hS hl
  obtain ⟨hx, hb, hr, hml, hown, hts, hlk⟩ := C
  have hl : lv_has ls 5 [(0, .ref (g_ad G 1 j)), (1, .int (nI 1)), (2, .float d)] := hl
  refine lv_aload_n hx hb dX1_widenAxis_0 rfl (lv_at hl 0 rfl) ?_
  refine gf hx hb hown hts hw hT 1 j (show j < 1026 by omega) (ci := 1) rfl rfl (fun _ h => List.mem_cons_of_mem _ (List.mem_append_right _ h)) 0 (by decide) (List.mem_of_getElem? (i := 1) rfl) (v := .ref (g_ad G 2 j)) rfl dX1_widenAxis_1 ?_
  refine lv_iconst (v := nI 0) hx hb dX1_widenAxis_4 (by decide) ?_
  refine lv_iload_n hx hb dX1_widenAxis_5 rfl (lv_at hl 1 rfl) ?_
  refine lv_iadd hx hb dX1_widenAxis_6 ?_
  refine top_i (y := nI 1) (by decide) ?_
  refine afl hx hb hw hT 2 j (show j < 1026 by omega) (f := bxS S j) rfl 1 (by decide) (by decide) dX1_widenAxis_7 ?_
  refine lv_ldcf (v := 1048576000) hx hb hown (hts _ (List.mem_of_getElem? (i := 2) rfl)) dX1_widenAxis_8 ?_
  refine lv_fsub hx hb dX1_widenAxis_10 hn.1 ?_
  refine lv_fstore_n (lv' := [(3, .float (FP.fsub (bxS S j 1) 1048576000)), (0, .ref (g_ad G 1 j)), (1, .int (nI 1)), (2, .float d)]) hx hb dX1_widenAxis_11 rfl hl (by decide) rfl (fun ls hl => ?_)
  refine lv_aload_n hx hb dX1_widenAxis_12 rfl (lv_at hl 1 rfl) ?_
  refine gf hx hb hown hts hw hT 1 j (show j < 1026 by omega) (ci := 1) rfl rfl (fun _ h => List.mem_cons_of_mem _ (List.mem_append_right _ h)) 0 (by decide) (List.mem_of_getElem? (i := 1) rfl) (v := .ref (g_ad G 2 j)) rfl dX1_widenAxis_13 ?_
  refine lv_iconst (v := nI 3) hx hb dX1_widenAxis_16 (by decide) ?_
  refine lv_iload_n hx hb dX1_widenAxis_17 rfl (lv_at hl 2 rfl) ?_
  refine lv_iadd hx hb dX1_widenAxis_18 ?_
  refine top_i (y := nI 4) (by decide) ?_
  refine afl hx hb hw hT 2 j (show j < 1026 by omega) (f := bxS S j) rfl 4 (by decide) (by decide) dX1_widenAxis_19 ?_
  refine lv_ldcf (v := 1048576000) hx hb hown (hts _ (List.mem_of_getElem? (i := 2) rfl)) dX1_widenAxis_20 ?_
  refine lv_fadd hx hb dX1_widenAxis_22 hn.2.1 ?_
  refine lv_fstore (lv' := [(4, .float (FP.fadd (bxS S j 4) 1048576000)), (3, .float (FP.fsub (bxS S j 1) 1048576000)), (0, .ref (g_ad G 1 j)), (1, .int (nI 1)), (2, .float d)]) hx hb dX1_widenAxis_23 hl (by decide) rfl (fun ls hl => ?_)
  refine lv_aload_n hx hb dX1_widenAxis_25 rfl (lv_at hl 2 rfl) ?_
  refine gf hx hb hown hts hw hT 1 j (show j < 1026 by omega) (ci := 1) rfl rfl (fun _ h => List.mem_cons_of_mem _ (List.mem_append_right _ h)) 0 (by decide) (List.mem_of_getElem? (i := 1) rfl) (v := .ref (g_ad G 2 j)) rfl dX1_widenAxis_26 ?_
  refine lv_iconst (v := nI 0) hx hb dX1_widenAxis_29 (by decide) ?_
  refine lv_iload_n hx hb dX1_widenAxis_30 rfl (lv_at hl 3 rfl) ?_
  refine lv_iadd hx hb dX1_widenAxis_31 ?_
  refine top_i (y := nI 1) (by decide) ?_
  refine lv_fload_n hx hb dX1_widenAxis_32 rfl (lv_at hl 4 rfl) ?_
  refine lv_fconst0 hx hb dX1_widenAxis_33 ?_
  refine fc_gge (x := d) (y := FP.fconst0) (tgt := 46) hx hb dX1_widenAxis_34 dX1_widenAxis_35 (by decide) (fun h1 => ?_) (fun h1 => ?_)
  · skip
    refine lv_fload_n hx hb dX1_widenAxis_46 rfl (lv_at hl 1 rfl) ?_
    refine afs (S' := (bxU S (va_up (bxS S) j (va_up (bxS S j) 1 (FP.fsub (bxS S j 1) 1048576000))))) hx hb hw hT hS 2 j (show j < 1026 by omega) (f := bxS S j) rfl 1 (by decide) (by decide) (mup_bx G S j (va_up (bxS S j) 1 (FP.fsub (bxS S j 1) 1048576000))) dX1_widenAxis_47 (fun H locs hw hS => ?_)
    refine lv_aload_n hx hb dX1_widenAxis_48 rfl (lv_at hl 2 rfl) ?_
    refine gf hx hb hown hts hw hT 1 j (show j < 1026 by omega) (ci := 1) rfl rfl (fun _ h => List.mem_cons_of_mem _ (List.mem_append_right _ h)) 0 (by decide) (List.mem_of_getElem? (i := 1) rfl) (v := .ref (g_ad G 2 j)) rfl dX1_widenAxis_49 ?_
    refine lv_iconst (v := nI 3) hx hb dX1_widenAxis_52 (by decide) ?_
    refine lv_iload_n hx hb dX1_widenAxis_53 rfl (lv_at hl 3 rfl) ?_
    refine lv_iadd hx hb dX1_widenAxis_54 ?_
    refine top_i (y := nI 4) (by decide) ?_
    refine lv_fload_n hx hb dX1_widenAxis_55 rfl (lv_at hl 4 rfl) ?_
    refine lv_fconst0 hx hb dX1_widenAxis_56 ?_
    refine fc_gge (x := d) (y := FP.fconst0) (tgt := 66) hx hb dX1_widenAxis_57 dX1_widenAxis_58 (by decide) (fun _ => ?_) (fun q => Bool.noConfusion (h1.symm.trans q))
    refine lv_fload hx hb dX1_widenAxis_66 (lv_at hl 0 rfl) ?_
    refine lv_fload_n hx hb dX1_widenAxis_68 rfl (lv_at hl 4 rfl) ?_
    refine lv_fconst2 hx hb dX1_widenAxis_69 ?_
    refine lv_fmul hx hb dX1_widenAxis_70 hn.2.2.1 ?_
    refine lv_fadd hx hb dX1_widenAxis_71 hn.2.2.2.2 ?_
    refine afs (S' := (bxU S (va_up (bxS S) j (va_up (va_up (bxS S j) 1 (FP.fsub (bxS S j 1) 1048576000)) 4 (FP.fadd (FP.fadd (bxS S j 4) 1048576000) (FP.fmul d FP.fconst2)))))) hx hb hw hT hS 2 j (show j < 1026 by omega) (f := va_up (bxS S j) 1 (FP.fsub (bxS S j 1) 1048576000)) (mup_bx G S j _).1 4 (by decide) (by decide) (mup2_bx G S j _ (va_up (va_up (bxS S j) 1 (FP.fsub (bxS S j 1) 1048576000)) 4 (FP.fadd (FP.fadd (bxS S j 4) 1048576000) (FP.fmul d FP.fconst2)))) dX1_widenAxis_72 (fun H locs hw hS => ?_)
    exact rv hx hb hlk hr (by rw [show waF (bxS S j) 1 d = va_up (va_up (bxS S j) 1 (FP.fsub (bxS S j 1) 1048576000)) 4 (FP.fadd (FP.fadd (bxS S j 4) 1048576000) (FP.fmul d FP.fconst2)) from if_neg (by rw [h1]; decide)]; exact hw) hS  (Nat.le_of_ble_eq_true rfl) (Nat.le_of_ble_eq_true rfl) dX1_widenAxis_73
  · skip
    refine lv_fload_n hx hb dX1_widenAxis_38 rfl (lv_at hl 1 rfl) ?_
    refine lv_fload_n hx hb dX1_widenAxis_39 rfl (lv_at hl 4 rfl) ?_
    refine lv_fconst2 hx hb dX1_widenAxis_40 ?_
    refine lv_fmul hx hb dX1_widenAxis_41 hn.2.2.1 ?_
    refine lv_fadd hx hb dX1_widenAxis_42 hn.2.2.2.1 ?_
    refine lv_goto (tgt := 47) hx hb dX1_widenAxis_43 (by decide) ?_
    refine afs (S' := (bxU S (va_up (bxS S) j (va_up (bxS S j) 1 (FP.fadd (FP.fsub (bxS S j 1) 1048576000) (FP.fmul d FP.fconst2)))))) hx hb hw hT hS 2 j (show j < 1026 by omega) (f := bxS S j) rfl 1 (by decide) (by decide) (mup_bx G S j (va_up (bxS S j) 1 (FP.fadd (FP.fsub (bxS S j 1) 1048576000) (FP.fmul d FP.fconst2)))) dX1_widenAxis_47 (fun H locs hw hS => ?_)
    refine lv_aload_n hx hb dX1_widenAxis_48 rfl (lv_at hl 2 rfl) ?_
    refine gf hx hb hown hts hw hT 1 j (show j < 1026 by omega) (ci := 1) rfl rfl (fun _ h => List.mem_cons_of_mem _ (List.mem_append_right _ h)) 0 (by decide) (List.mem_of_getElem? (i := 1) rfl) (v := .ref (g_ad G 2 j)) rfl dX1_widenAxis_49 ?_
    refine lv_iconst (v := nI 3) hx hb dX1_widenAxis_52 (by decide) ?_
    refine lv_iload_n hx hb dX1_widenAxis_53 rfl (lv_at hl 3 rfl) ?_
    refine lv_iadd hx hb dX1_widenAxis_54 ?_
    refine top_i (y := nI 4) (by decide) ?_
    refine lv_fload_n hx hb dX1_widenAxis_55 rfl (lv_at hl 4 rfl) ?_
    refine lv_fconst0 hx hb dX1_widenAxis_56 ?_
    refine fc_gge (x := d) (y := FP.fconst0) (tgt := 66) hx hb dX1_widenAxis_57 dX1_widenAxis_58 (by decide) (fun q => Bool.noConfusion (h1.symm.trans q)) (fun _ => ?_)
    refine lv_fload hx hb dX1_widenAxis_61 (lv_at hl 0 rfl) ?_
    refine lv_goto (tgt := 72) hx hb dX1_widenAxis_63 (by decide) ?_
    refine afs (S' := (bxU S (va_up (bxS S) j (va_up (va_up (bxS S j) 1 (FP.fadd (FP.fsub (bxS S j 1) 1048576000) (FP.fmul d FP.fconst2))) 4 (FP.fadd (bxS S j 4) 1048576000))))) hx hb hw hT hS 2 j (show j < 1026 by omega) (f := va_up (bxS S j) 1 (FP.fadd (FP.fsub (bxS S j 1) 1048576000) (FP.fmul d FP.fconst2))) (mup_bx G S j _).1 4 (by decide) (by decide) (mup2_bx G S j _ (va_up (va_up (bxS S j) 1 (FP.fadd (FP.fsub (bxS S j 1) 1048576000) (FP.fmul d FP.fconst2))) 4 (FP.fadd (bxS S j 4) 1048576000))) dX1_widenAxis_72 (fun H locs hw hS => ?_)
    exact rv hx hb hlk hr (by rw [show waF (bxS S j) 1 d = va_up (va_up (bxS S j) 1 (FP.fadd (FP.fsub (bxS S j 1) 1048576000) (FP.fmul d FP.fconst2))) 4 (FP.fadd (bxS S j 4) 1048576000) from if_pos h1]; exact hw) hS  (Nat.le_of_ble_eq_true rfl) (Nat.le_of_ble_eq_true rfl) dX1_widenAxis_73
set_option maxRecDepth 100000 in
set_option maxHeartbeats 1000000 in
theorem c_widenAxis2 (l : Launch) (G : Gm) (S : St) (j : Nat) (hj : j < 1026) (d : UInt32) (hn : waN (bxS S j) 2 d) : Pv l yX1_widenAxis wsX1_widenAxis ({ frames := 0, cells := 0, slots := 0, locals := 0 } : Room) [.ref (g_ad G 1 j), .int (nI 2), .float d] G S (boxU S j (waF (bxS S j) 2 d)) := by
  refine ent (cc := cX1_widenAxis) (maxL := 5) (ret := none) (by decide) rfl (Nat.le_of_ble_eq_true rfl) ?_
  intro p e s m below meth c ls C hw hT hS hl
  obtain ⟨hx, hb, hr, hml, hown, hts, hlk⟩ := C
  have hl : lv_has ls 5 [(0, .ref (g_ad G 1 j)), (1, .int (nI 2)), (2, .float d)] := hl
  refine lv_aload_n hx hb dX1_widenAxis_0 rfl (lv_at hl 0 rfl) ?_
  refine gf hx hb hown hts hw hT 1 j (show j < 1026 by omega) (ci := 1) rfl rfl (fun _ h => List.mem_cons_of_mem _ (List.mem_append_right _ h)) 0 (by decide) (List.mem_of_getElem? (i := 1) rfl) (v := .ref (g_ad G 2 j)) rfl dX1_widenAxis_1 ?_
  refine lv_iconst (v := nI 0) hx hb dX1_widenAxis_4 (by decide) ?_
  refine lv_iload_n hx hb dX1_widenAxis_5 rfl (lv_at hl 1 rfl) ?_
  refine lv_iadd hx hb dX1_widenAxis_6 ?_
  refine top_i (y := nI 2) (by decide) ?_
  refine afl hx hb hw hT 2 j (show j < 1026 by omega) (f := bxS S j) rfl 2 (by decide) (by decide) dX1_widenAxis_7 ?_
  refine lv_ldcf (v := 1048576000) hx hb hown (hts _ (List.mem_of_getElem? (i := 2) rfl)) dX1_widenAxis_8 ?_
  refine lv_fsub hx hb dX1_widenAxis_10 hn.1 ?_
  refine lv_fstore_n (lv' := [(3, .float (FP.fsub (bxS S j 2) 1048576000)), (0, .ref (g_ad G 1 j)), (1, .int (nI 2)), (2, .float d)]) hx hb dX1_widenAxis_11 rfl hl (by decide) rfl (fun ls hl => ?_)
  refine lv_aload_n hx hb dX1_widenAxis_12 rfl (lv_at hl 1 rfl) ?_
  refine gf hx hb hown hts hw hT 1 j (show j < 1026 by omega) (ci := 1) rfl rfl (fun _ h => List.mem_cons_of_mem _ (List.mem_append_right _ h)) 0 (by decide) (List.mem_of_getElem? (i := 1) rfl) (v := .ref (g_ad G 2 j)) rfl dX1_widenAxis_13 ?_
  refine lv_iconst (v := nI 3) hx hb dX1_widenAxis_16 (by decide) ?_
  refine lv_iload_n hx hb dX1_widenAxis_17 rfl (lv_at hl 2 rfl) ?_
  refine lv_iadd hx hb dX1_widenAxis_18 ?_
  refine top_i (y := nI 5) (by decide) ?_
  refine afl hx hb hw hT 2 j (show j < 1026 by omega) (f := bxS S j) rfl 5 (by decide) (by decide) dX1_widenAxis_19 ?_
  refine lv_ldcf (v := 1048576000) hx hb hown (hts _ (List.mem_of_getElem? (i := 2) rfl)) dX1_widenAxis_20 ?_
  refine lv_fadd hx hb dX1_widenAxis_22 hn.2.1 ?_
  refine lv_fstore (lv' := [(4, .float (FP.fadd (bxS S j 5) 1048576000)), (3, .float (FP.fsub (bxS S j 2) 1048576000)), (0, .ref (g_ad G 1 j)), (1, .int (nI 2)), (2, .float d)]) hx hb dX1_widenAxis_23 hl (by decide) rfl (fun ls hl => ?_)
  refine lv_aload_n hx hb dX1_widenAxis_25 rfl (lv_at hl 2 rfl) ?_
  refine gf hx hb hown hts hw hT 1 j (show j < 1026 by omega) (ci := 1) rfl rfl (fun _ h => List.mem_cons_of_mem _ (List.mem_append_right _ h)) 0 (by decide) (List.mem_of_getElem? (i := 1) rfl) (v := .ref (g_ad G 2 j)) rfl dX1_widenAxis_26 ?_
  refine lv_iconst (v := nI 0) hx hb dX1_widenAxis_29 (by decide) ?_
  refine lv_iload_n hx hb dX1_widenAxis_30 rfl (lv_at hl 3 rfl) ?_
  refine lv_iadd hx hb dX1_widenAxis_31 ?_
  refine top_i (y := nI 2) (by decide) ?_
  refine lv_fload_n hx hb dX1_widenAxis_32 rfl (lv_at hl 4 rfl) ?_
  refine lv_fconst0 hx hb dX1_widenAxis_33 ?_
  refine fc_gge (x := d) (y := FP.fconst0) (tgt := 46) hx hb dX1_widenAxis_34 dX1_widenAxis_35 (by decide) (fun h1 => ?_) (fun h1 => ?_)
  · skip
    refine lv_fload_n hx hb dX1_widenAxis_46 rfl (lv_at hl 1 rfl) ?_
    refine afs (S' := (bxU S (va_up (bxS S) j (va_up (bxS S j) 2 (FP.fsub (bxS S j 2) 1048576000))))) hx hb hw hT hS 2 j (show j < 1026 by omega) (f := bxS S j) rfl 2 (by decide) (by decide) (mup_bx G S j (va_up (bxS S j) 2 (FP.fsub (bxS S j 2) 1048576000))) dX1_widenAxis_47 (fun H locs hw hS => ?_)
    refine lv_aload_n hx hb dX1_widenAxis_48 rfl (lv_at hl 2 rfl) ?_
    refine gf hx hb hown hts hw hT 1 j (show j < 1026 by omega) (ci := 1) rfl rfl (fun _ h => List.mem_cons_of_mem _ (List.mem_append_right _ h)) 0 (by decide) (List.mem_of_getElem? (i := 1) rfl) (v := .ref (g_ad G 2 j)) rfl dX1_widenAxis_49 ?_
    refine lv_iconst (v := nI 3) hx hb dX1_widenAxis_52 (by decide) ?_
    refine lv_iload_n hx hb dX1_widenAxis_53 rfl (lv_at hl 3 rfl) ?_
    refine lv_iadd hx hb dX1_widenAxis_54 ?_
    refine top_i (y := nI 5) (by decide) ?_
    refine lv_fload_n hx hb dX1_widenAxis_55 rfl (lv_at hl 4 rfl) ?_
    refine lv_fconst0 hx hb dX1_widenAxis_56 ?_
    refine fc_gge (x := d) (y := FP.fconst0) (tgt := 66) hx hb dX1_widenAxis_57 dX1_widenAxis_58 (by decide) (fun _ => ?_) (fun q => Bool.noConfusion (h1.symm.trans q))
    refine lv_fload hx hb dX1_widenAxis_66 (lv_at hl 0 rfl) ?_
    refine lv_fload_n hx hb dX1_widenAxis_68 rfl (lv_at hl 4 rfl) ?_
    refine lv_fconst2 hx hb dX1_widenAxis_69 ?_
    refine lv_fmul hx hb dX1_widenAxis_70 hn.2.2.1 ?_
    refine lv_fadd hx hb dX1_widenAxis_71 hn.2.2.2.2 ?_
    refine afs (S' := (bxU S (va_up (bxS S) j (va_up (va_up (bxS S j) 2 (FP.fsub (bxS S j 2) 1048576000)) 5 (FP.fadd (FP.fadd (bxS S j 5) 1048576000) (FP.fmul d FP.fconst2)))))) hx hb hw hT hS 2 j (show j < 1026 by omega) (f := va_up (bxS S j) 2 (FP.fsub (bxS S j 2) 1048576000)) (mup_bx G S j _).1 5 (by decide) (by decide) (mup2_bx G S j _ (va_up (va_up (bxS S j) 2 (FP.fsub (bxS S j 2) 1048576000)) 5 (FP.fadd (FP.fadd (bxS S j 5) 1048576000) (FP.fmul d FP.fconst2)))) dX1_widenAxis_72 (fun H locs hw hS => ?_)
    exact rv hx hb hlk hr (by rw [show waF (bxS S j) 2 d = va_up (va_up (bxS S j) 2 (FP.fsub (bxS S j 2) 1048576000)) 5 (FP.fadd (FP.fadd (bxS S j 5) 1048576000) (FP.fmul d FP.fconst2)) from if_neg (by rw [h1]; decide)]; exact hw) hS  (Nat.le_of_ble_eq_true rfl) (Nat.le_of_ble_eq_true rfl) dX1_widenAxis_73
  · skip
    refine lv_fload_n hx hb dX1_widenAxis_38 rfl (lv_at hl 1 rfl) ?_
    refine lv_fload_n hx hb dX1_widenAxis_39 rfl (lv_at hl 4 rfl) ?_
    refine lv_fconst2 hx hb dX1_widenAxis_40 ?_
    refine lv_fmul hx hb dX1_widenAxis_41 hn.2.2.1 ?_
    refine lv_fadd hx hb dX1_widenAxis_42 hn.2.2.2.1 ?_
    refine lv_goto (tgt := 47) hx hb dX1_widenAxis_43 (by decide) ?_
    refine afs (S' := (bxU S (va_up (bxS S) j (va_up (bxS S j) 2 (FP.fadd (FP.fsub (bxS S j 2) 1048576000) (FP.fmul d FP.fconst2)))))) hx hb hw hT hS 2 j (show j < 1026 by omega) (f := bxS S j) rfl 2 (by decide) (by decide) (mup_bx G S j (va_up (bxS S j) 2 (FP.fadd (FP.fsub (bxS S j 2) 1048576000) (FP.fmul d FP.fconst2)))) dX1_widenAxis_47 (fun H locs hw hS => ?_)
    refine lv_aload_n hx hb dX1_widenAxis_48 rfl (lv_at hl 2 rfl) ?_
    refine gf hx hb hown hts hw hT 1 j (show j < 1026 by omega) (ci := 1) rfl rfl (fun _ h => List.mem_cons_of_mem _ (List.mem_append_right _ h)) 0 (by decide) (List.mem_of_getElem? (i := 1) rfl) (v := .ref (g_ad G 2 j)) rfl dX1_widenAxis_49 ?_
    refine lv_iconst (v := nI 3) hx hb dX1_widenAxis_52 (by decide) ?_
    refine lv_iload_n hx hb dX1_widenAxis_53 rfl (lv_at hl 3 rfl) ?_
    refine lv_iadd hx hb dX1_widenAxis_54 ?_
    refine top_i (y := nI 5) (by decide) ?_
    refine lv_fload_n hx hb dX1_widenAxis_55 rfl (lv_at hl 4 rfl) ?_
    refine lv_fconst0 hx hb dX1_widenAxis_56 ?_
    refine fc_gge (x := d) (y := FP.fconst0) (tgt := 66) hx hb dX1_widenAxis_57 dX1_widenAxis_58 (by decide) (fun q => Bool.noConfusion (h1.symm.trans q)) (fun _ => ?_)
    refine lv_fload hx hb dX1_widenAxis_61 (lv_at hl 0 rfl) ?_
    refine lv_goto (tgt := 72) hx hb dX1_widenAxis_63 (by decide) ?_
    refine afs (S' := (bxU S (va_up (bxS S) j (va_up (va_up (bxS S j) 2 (FP.fadd (FP.fsub (bxS S j 2) 1048576000) (FP.fmul d FP.fconst2))) 5 (FP.fadd (bxS S j 5) 1048576000))))) hx hb hw hT hS 2 j (show j < 1026 by omega) (f := va_up (bxS S j) 2 (FP.fadd (FP.fsub (bxS S j 2) 1048576000) (FP.fmul d FP.fconst2))) (mup_bx G S j _).1 5 (by decide) (by decide) (mup2_bx G S j _ (va_up (va_up (bxS S j) 2 (FP.fadd (FP.fsub (bxS S j 2) 1048576000) (FP.fmul d FP.fconst2))) 5 (FP.fadd (bxS S j 5) 1048576000))) dX1_widenAxis_72 (fun H locs hw hS => ?_)
    exact rv hx hb hlk hr (by rw [show waF (bxS S j) 2 d = va_up (va_up (bxS S j) 2 (FP.fadd (FP.fsub (bxS S j 2) 1048576000) (FP.fmul d FP.fconst2))) 5 (FP.fadd (bxS S j 5) 1048576000) from if_pos h1]; exact hw) hS  (Nat.le_of_ble_eq_true rfl) (Nat.le_of_ble_eq_true rfl) dX1_widenAxis_73
set_option maxRecDepth 100000 in
set_option maxHeartbeats 1000000 in
theorem c_widen (l : Launch) (G : Gm) (S : St) (j : Nat) (hj : j < 1026) (dx dy dz : UInt32) (hn : wdN (bxS S j) dx dy dz) : Pv l yX1_widen wsX1_widen ({ frames := 1, cells := 0, slots := 0, locals := 24 } : Room) [.ref (g_ad G 1 j), .float dx, .float dy, .float dz] G S (boxU S j (wdF (bxS S j) dx dy dz)) := by
  refine ent (cc := cX1_widen) (maxL := 4) (ret := none) (by decide) rfl (Nat.le_of_ble_eq_true rfl) ?_
  intro p e s m below meth c ls C hw hT hS hl
  obtain ⟨hx, hb, hr, hml, hown, hts, hlk⟩ := C
  have hl : lv_has ls 4 [(0, .ref (g_ad G 1 j)), (1, .float dx), (2, .float dy), (3, .float dz)] := hl
  refine lv_aload_n hx hb dX1_widen_0 rfl (lv_at hl 0 rfl) ?_
  refine lv_iconst (v := nI 0) hx hb dX1_widen_1 (by decide) ?_
  refine lv_fload_n hx hb dX1_widen_2 rfl (lv_at hl 1 rfl) ?_
  refine cVv ⟨hx, hb, hml, hown, hts⟩ (c_widenAxis0 l G S j (show j < 1026 by omega) dx hn.1) (cwV 2 hts gX1_widen_X1_widenAxis rfl rfl rfl (by decide +kernel) ⟨(Nat.le_of_ble_eq_true rfl), (Nat.le_of_ble_eq_true rfl)⟩) hw hT hS (rcv hw hT 1 j (show j < 1026 by omega) rfl rfl) (As := [.int (nI 0), .float dx]) (rest := []) rfl hl.1 rfl (Nat.le_of_ble_eq_true rfl) dX1_widen_3 ⟨(Nat.le_of_ble_eq_true rfl), (Nat.le_of_ble_eq_true rfl)⟩ (fun H locs hw hS => ?_)
  refine lv_aload_n hx hb dX1_widen_6 rfl (lv_at hl 0 rfl) ?_
  refine lv_iconst (v := nI 1) hx hb dX1_widen_7 (by decide) ?_
  refine lv_fload_n hx hb dX1_widen_8 rfl (lv_at hl 2 rfl) ?_
  refine cVv ⟨hx, hb, hml, hown, hts⟩ (c_widenAxis1 l G (boxU S j (waF (bxS S j) 0 dx)) j (show j < 1026 by omega) dy (by simp only [bx_s]; exact hn.2.1)) (cwV 2 hts gX1_widen_X1_widenAxis rfl rfl rfl (by decide +kernel) ⟨(Nat.le_of_ble_eq_true rfl), (Nat.le_of_ble_eq_true rfl)⟩) hw hT hS (rcv hw hT 1 j (show j < 1026 by omega) rfl rfl) (As := [.int (nI 1), .float dy]) (rest := []) rfl hl.1 rfl (Nat.le_of_ble_eq_true rfl) dX1_widen_9 ⟨(Nat.le_of_ble_eq_true rfl), (Nat.le_of_ble_eq_true rfl)⟩ (fun H locs hw hS => ?_)
  refine lv_aload_n hx hb dX1_widen_12 rfl (lv_at hl 0 rfl) ?_
  refine lv_iconst (v := nI 2) hx hb dX1_widen_13 (by decide) ?_
  refine lv_fload_n hx hb dX1_widen_14 rfl (lv_at hl 3 rfl) ?_
  refine cVv ⟨hx, hb, hml, hown, hts⟩ (c_widenAxis2 l G (boxU (boxU S j (waF (bxS S j) 0 dx)) j (waF (bxS (boxU S j (waF (bxS S j) 0 dx)) j) 1 dy)) j (show j < 1026 by omega) dz (by simp only [bx_s]; exact hn.2.2)) (cwV 2 hts gX1_widen_X1_widenAxis rfl rfl rfl (by decide +kernel) ⟨(Nat.le_of_ble_eq_true rfl), (Nat.le_of_ble_eq_true rfl)⟩) hw hT hS (rcv hw hT 1 j (show j < 1026 by omega) rfl rfl) (As := [.int (nI 2), .float dz]) (rest := []) rfl hl.1 rfl (Nat.le_of_ble_eq_true rfl) dX1_widen_15 ⟨(Nat.le_of_ble_eq_true rfl), (Nat.le_of_ble_eq_true rfl)⟩ (fun H locs hw hS => ?_)
  exact rv hx hb hlk hr (by have q := hw; simp only [bx_s, bx_2] at q; exact q) hS  (Nat.le_of_ble_eq_true rfl) (Nat.le_of_ble_eq_true rfl) dX1_widen_18
def enD (g : Nat → UInt32) (i : Nat) : UInt32 := FP.fsub (g (3 + i)) (g i)
def enA (f g : Nat → UInt32) (i : Nat) : UInt32 := FP.fdiv (FP.fsub (f i) (g i)) (enD g i)
def enB (f g : Nat → UInt32) (i : Nat) : UInt32 := FP.fdiv (FP.fsub (f (3 + i)) (g i)) (enD g i)
/-- where the line g enters the box f: n axes are left, from i on -/
def enG (f g : Nat → UInt32) : Nat → Nat → UInt32 → UInt32 → UInt32
  | 0, _, en, lv => if fGt en lv = true then 3212836864 else en
  | n + 1, i, en, lv => if fEq (enD g i) FP.fconst0 = true then (if fLt (g i) (f i) = true then 3212836864 else if fGt (g i) (f (3 + i)) = true then 3212836864 else enG f g n (i + 1) en lv)
    else enG f g n (i + 1) (if fGt (if fGt (enA f g i) (enB f g i) = true then enB f g i else enA f g i) en = true then (if fGt (enA f g i) (enB f g i) = true then enB f g i else enA f g i) else en) (if fLt (if fGt (enA f g i) (enB f g i) = true then enA f g i else enB f g i) lv = true then (if fGt (enA f g i) (enB f g i) = true then enA f g i else enB f g i) else lv)
def enN (f g : Nat → UInt32) : Prop := ∀ i, i < 3 → vf_n32 (enD g i) ∧ vf_n32 (FP.fsub (f i) (g i)) ∧ vf_n32 (FP.fsub (f (3 + i)) (g i)) ∧ (fEq (enD g i) FP.fconst0 = false → vf_n32 (enA f g i) ∧ vf_n32 (enB f g i))
set_option maxRecDepth 100000 in
set_option maxHeartbeats 1000000 in
theorem c_enterOfLine (l : Launch) (G : Gm) (S : St) (j : Nat) (hj : j < 1026) (a : Nat) (ha : a < 1026) (hn : enN (bxS S j) (bxS S a)) : Pf l yX1_enterOfLine wsX1_enterOfLine ({ frames := 0, cells := 0, slots := 0, locals := 0 } : Room) [.ref (g_ad G 1 j), .ref (g_ad G 1 a)] G S (enG (bxS S j) (bxS S a) 3 0 FP.fconst0 FP.fconst1) S := by
  refine ent (cc := cX1_enterOfLine) (maxL := 11) (ret := (some .float)) (by decide) rfl (Nat.le_of_ble_eq_true rfl) ?_
  intro p e s m below meth c ls C hw hT hS hl
  obtain ⟨hx, hb, hr, hml, hown, hts, hlk⟩ := C
  have hl : lv_has ls 11 [(0, .ref (g_ad G 1 j)), (1, .ref (g_ad G 1 a))] := hl
  refine lv_fconst0 hx hb dX1_enterOfLine_0 ?_
  refine lv_fstore_n (lv' := [(2, .float FP.fconst0), (0, .ref (g_ad G 1 j)), (1, .ref (g_ad G 1 a))]) hx hb dX1_enterOfLine_1 rfl hl (by decide) rfl (fun ls hl => ?_)
  refine lv_fconst1 hx hb dX1_enterOfLine_2 ?_
  refine lv_fstore_n (lv' := [(3, .float FP.fconst1), (2, .float FP.fconst0), (0, .ref (g_ad G 1 j)), (1, .ref (g_ad G 1 a))]) hx hb dX1_enterOfLine_3 rfl hl (by decide) rfl (fun ls hl => ?_)
  refine lv_iconst (v := nI 0) hx hb dX1_enterOfLine_4 (by decide) ?_
  refine lv_istore (lv' := [(4, .int (nI 0)), (3, .float FP.fconst1), (2, .float FP.fconst0), (0, .ref (g_ad G 1 j)), (1, .ref (g_ad G 1 a))]) hx hb dX1_enterOfLine_5 hl (by decide) rfl (fun ls hl => ?_)
  have LOOP : ∀ (n i : Nat) (en : UInt32) (lv : UInt32) (H : Heap) (locs : List Loc) (ls : Array Slot), i + n = 3 → (enG (bxS S j) (bxS S a) n i en lv = enG (bxS S j) (bxS S a) 3 0 FP.fconst0 FP.fconst1) → wdM G S H s → va_S (g_A G) s.heap H locs → lv_has ls 11 [(4, .int (nI i)), (3, .float lv), (2, .float en), (0, .ref (g_ad G 1 j)), (1, .ref (g_ad G 1 a))] → W p l e ({ frames := 0, cells := 0, slots := 0, locals := 0 } : Room) s m ([.ref (g_ad G 1 j), .ref (g_ad G 1 a)] : List Value).toArray below meth c H locs 0 0 (MQ below (Qf G (enG (bxS S j) (bxS S a) 3 0 FP.fconst0 FP.fconst1) S) ([.ref (g_ad G 1 j), .ref (g_ad G 1 a)] : List Value).toArray s ({ frames := 0, cells := 0, slots := 0, locals := 0 } : Room).cells ({ frames := 0, cells := 0, slots := 0, locals := 0 } : Room).slots (g_A G)) (F0 m 7 ls []) := by
    intro n
    induction n with
    | zero =>
      intro i en lv H locs ls hi0 hq hw hS hl
      obtain rfl : 3 = i := by omega
      refine lv_iload hx hb dX1_enterOfLine_7 (lv_at hl 0 rfl) ?_
      refine lv_iconst (v := nI 3) hx hb dX1_enterOfLine_9 (by decide) ?_
      refine lv_icmp_ge (tgt := 180) hx hb dX1_enterOfLine_10 (by decide) (fun _ => ?_) (fun q => absurd (by decide) q)
      refine lv_fload_n hx hb dX1_enterOfLine_180 rfl (lv_at hl 2 rfl) ?_
      refine lv_fload_n hx hb dX1_enterOfLine_181 rfl (lv_at hl 1 rfl) ?_
      refine fc_lle (x := en) (y := lv) (tgt := 191) hx hb dX1_enterOfLine_182 dX1_enterOfLine_183 (by decide) (fun h2 => ?_) (fun h2 => ?_)
      · skip
        refine lv_fload_n hx hb dX1_enterOfLine_191 rfl (lv_at hl 2 rfl) ?_
        exact rf hx hb hlk hr hw hS (by rw [← hq]; simp [enG, enA, enB, enD, h2]) (Nat.le_of_ble_eq_true rfl) (Nat.le_of_ble_eq_true rfl) dX1_enterOfLine_192
      · skip
        refine lv_ldcf (v := 3212836864) hx hb hown (hts _ (List.mem_of_getElem? (i := 2) rfl)) dX1_enterOfLine_186 ?_
        refine lv_goto (tgt := 192) hx hb dX1_enterOfLine_188 (by decide) ?_
        exact rf hx hb hlk hr hw hS (by rw [← hq]; simp [enG, enA, enB, enD, h2]) (Nat.le_of_ble_eq_true rfl) (Nat.le_of_ble_eq_true rfl) dX1_enterOfLine_192
    | succ n ih =>
      intro i en lv H locs ls hi0 hq hw hS hl
      have hi : i < 3 := by omega
      refine lv_iload hx hb dX1_enterOfLine_7 (lv_at hl 0 rfl) ?_
      refine lv_iconst (v := nI 3) hx hb dX1_enterOfLine_9 (by decide) ?_
      refine lv_icmp_ge (tgt := 180) hx hb dX1_enterOfLine_10 (by decide) (fun q => absurd q (nI_ge hi (by decide))) (fun _ => ?_)
      refine lv_aload_n hx hb dX1_enterOfLine_13 rfl (lv_at hl 4 rfl) ?_
      refine gf hx hb hown hts hw hT 1 a (show a < 1026 by omega) (ci := 1) rfl rfl (fun _ h => List.mem_cons_of_mem _ (List.mem_append_right _ h)) 0 (by decide) (List.mem_of_getElem? (i := 1) rfl) (v := .ref (g_ad G 2 a)) rfl dX1_enterOfLine_14 ?_
      refine lv_iconst (v := nI 0) hx hb dX1_enterOfLine_17 (by decide) ?_
      refine lv_iload hx hb dX1_enterOfLine_18 (lv_at hl 0 rfl) ?_
      refine lv_iadd hx hb dX1_enterOfLine_20 ?_
      refine top_i (y := nI i) ((nI_add 0 i).trans (by rw [Nat.zero_add])) ?_
      refine afl hx hb hw hT 2 a (show a < 1026 by omega) (f := bxS S a) rfl i (show i < 6 by omega) (by decide) dX1_enterOfLine_21 ?_
      refine lv_fstore (lv' := [(5, .float (bxS S a i)), (4, .int (nI i)), (3, .float lv), (2, .float en), (0, .ref (g_ad G 1 j)), (1, .ref (g_ad G 1 a))]) hx hb dX1_enterOfLine_22 hl (by decide) rfl (fun ls hl => ?_)
      refine lv_aload_n hx hb dX1_enterOfLine_24 rfl (lv_at hl 5 rfl) ?_
      refine gf hx hb hown hts hw hT 1 a (show a < 1026 by omega) (ci := 1) rfl rfl (fun _ h => List.mem_cons_of_mem _ (List.mem_append_right _ h)) 0 (by decide) (List.mem_of_getElem? (i := 1) rfl) (v := .ref (g_ad G 2 a)) rfl dX1_enterOfLine_25 ?_
      refine lv_iconst (v := nI 3) hx hb dX1_enterOfLine_28 (by decide) ?_
      refine lv_iload hx hb dX1_enterOfLine_29 (lv_at hl 1 rfl) ?_
      refine lv_iadd hx hb dX1_enterOfLine_31 ?_
      refine top_i (y := nI (3 + i)) (nI_add 3 i) ?_
      refine afl hx hb hw hT 2 a (show a < 1026 by omega) (f := bxS S a) rfl (3 + i) (show 3 + i < 6 by omega) (by decide) dX1_enterOfLine_32 ?_
      refine lv_fload hx hb dX1_enterOfLine_33 (lv_at hl 0 rfl) ?_
      refine lv_fsub hx hb dX1_enterOfLine_35 (hn i hi).1 ?_
      refine lv_fstore (lv' := [(6, .float (FP.fsub (bxS S a (3 + i)) (bxS S a i))), (5, .float (bxS S a i)), (4, .int (nI i)), (3, .float lv), (2, .float en), (0, .ref (g_ad G 1 j)), (1, .ref (g_ad G 1 a))]) hx hb dX1_enterOfLine_36 hl (by decide) rfl (fun ls hl => ?_)
      refine lv_fload hx hb dX1_enterOfLine_38 (lv_at hl 0 rfl) ?_
      refine lv_fconst0 hx hb dX1_enterOfLine_40 ?_
      refine fc_lne (x := FP.fsub (bxS S a (3 + i)) (bxS S a i)) (y := FP.fconst0) (tgt := 78) hx hb dX1_enterOfLine_41 dX1_enterOfLine_42 (by decide) (fun h4 => ?_) (fun h4 => ?_)
      · skip
        refine lv_aload_n hx hb dX1_enterOfLine_78 rfl (lv_at hl 5 rfl) ?_
        refine gf hx hb hown hts hw hT 1 j (show j < 1026 by omega) (ci := 1) rfl rfl (fun _ h => List.mem_cons_of_mem _ (List.mem_append_right _ h)) 0 (by decide) (List.mem_of_getElem? (i := 1) rfl) (v := .ref (g_ad G 2 j)) rfl dX1_enterOfLine_79 ?_
        refine lv_iconst (v := nI 0) hx hb dX1_enterOfLine_82 (by decide) ?_
        refine lv_iload hx hb dX1_enterOfLine_83 (lv_at hl 2 rfl) ?_
        refine lv_iadd hx hb dX1_enterOfLine_85 ?_
        refine top_i (y := nI i) ((nI_add 0 i).trans (by rw [Nat.zero_add])) ?_
        refine afl hx hb hw hT 2 j (show j < 1026 by omega) (f := bxS S j) rfl i (show i < 6 by omega) (by decide) dX1_enterOfLine_86 ?_
        refine lv_fload hx hb dX1_enterOfLine_87 (lv_at hl 1 rfl) ?_
        refine lv_fsub hx hb dX1_enterOfLine_89 (hn i hi).2.1 ?_
        refine lv_fload hx hb dX1_enterOfLine_90 (lv_at hl 0 rfl) ?_
        refine lv_fdiv hx hb dX1_enterOfLine_92 ((hn i hi).2.2.2 h4).1 ?_
        refine lv_fstore (lv' := [(7, .float (FP.fdiv (FP.fsub (bxS S j i) (bxS S a i)) (FP.fsub (bxS S a (3 + i)) (bxS S a i)))), (6, .float (FP.fsub (bxS S a (3 + i)) (bxS S a i))), (5, .float (bxS S a i)), (4, .int (nI i)), (3, .float lv), (2, .float en), (0, .ref (g_ad G 1 j)), (1, .ref (g_ad G 1 a))]) hx hb dX1_enterOfLine_93 hl (by decide) rfl (fun ls hl => ?_)
        refine lv_aload_n hx hb dX1_enterOfLine_95 rfl (lv_at hl 6 rfl) ?_
        refine gf hx hb hown hts hw hT 1 j (show j < 1026 by omega) (ci := 1) rfl rfl (fun _ h => List.mem_cons_of_mem _ (List.mem_append_right _ h)) 0 (by decide) (List.mem_of_getElem? (i := 1) rfl) (v := .ref (g_ad G 2 j)) rfl dX1_enterOfLine_96 ?_
        refine lv_iconst (v := nI 3) hx hb dX1_enterOfLine_99 (by decide) ?_
        refine lv_iload hx hb dX1_enterOfLine_100 (lv_at hl 3 rfl) ?_
        refine lv_iadd hx hb dX1_enterOfLine_102 ?_
        refine top_i (y := nI (3 + i)) (nI_add 3 i) ?_
        refine afl hx hb hw hT 2 j (show j < 1026 by omega) (f := bxS S j) rfl (3 + i) (show 3 + i < 6 by omega) (by decide) dX1_enterOfLine_103 ?_
        refine lv_fload hx hb dX1_enterOfLine_104 (lv_at hl 2 rfl) ?_
        refine lv_fsub hx hb dX1_enterOfLine_106 (hn i hi).2.2.1 ?_
        refine lv_fload hx hb dX1_enterOfLine_107 (lv_at hl 1 rfl) ?_
        refine lv_fdiv hx hb dX1_enterOfLine_109 ((hn i hi).2.2.2 h4).2 ?_
        refine lv_fstore (lv' := [(8, .float (FP.fdiv (FP.fsub (bxS S j (3 + i)) (bxS S a i)) (FP.fsub (bxS S a (3 + i)) (bxS S a i)))), (7, .float (FP.fdiv (FP.fsub (bxS S j i) (bxS S a i)) (FP.fsub (bxS S a (3 + i)) (bxS S a i)))), (6, .float (FP.fsub (bxS S a (3 + i)) (bxS S a i))), (5, .float (bxS S a i)), (4, .int (nI i)), (3, .float lv), (2, .float en), (0, .ref (g_ad G 1 j)), (1, .ref (g_ad G 1 a))]) hx hb dX1_enterOfLine_110 hl (by decide) rfl (fun ls hl => ?_)
        refine lv_fload hx hb dX1_enterOfLine_112 (lv_at hl 1 rfl) ?_
        refine lv_fload hx hb dX1_enterOfLine_114 (lv_at hl 0 rfl) ?_
        refine fc_lle (x := FP.fdiv (FP.fsub (bxS S j i) (bxS S a i)) (FP.fsub (bxS S a (3 + i)) (bxS S a i))) (y := FP.fdiv (FP.fsub (bxS S j (3 + i)) (bxS S a i)) (FP.fsub (bxS S a (3 + i)) (bxS S a i))) (tgt := 125) hx hb dX1_enterOfLine_116 dX1_enterOfLine_117 (by decide) (fun h5 => ?_) (fun h5 => ?_)
        · skip
          refine lv_fload hx hb dX1_enterOfLine_125 (lv_at hl 1 rfl) ?_
          refine lv_fstore (lv' := [(9, .float (FP.fdiv (FP.fsub (bxS S j i) (bxS S a i)) (FP.fsub (bxS S a (3 + i)) (bxS S a i)))), (8, .float (FP.fdiv (FP.fsub (bxS S j (3 + i)) (bxS S a i)) (FP.fsub (bxS S a (3 + i)) (bxS S a i)))), (7, .float (FP.fdiv (FP.fsub (bxS S j i) (bxS S a i)) (FP.fsub (bxS S a (3 + i)) (bxS S a i)))), (6, .float (FP.fsub (bxS S a (3 + i)) (bxS S a i))), (5, .float (bxS S a i)), (4, .int (nI i)), (3, .float lv), (2, .float en), (0, .ref (g_ad G 1 j)), (1, .ref (g_ad G 1 a))]) hx hb dX1_enterOfLine_127 hl (by decide) rfl (fun ls hl => ?_)
          refine lv_fload hx hb dX1_enterOfLine_129 (lv_at hl 2 rfl) ?_
          refine lv_fload hx hb dX1_enterOfLine_131 (lv_at hl 1 rfl) ?_
          refine fc_lle (x := FP.fdiv (FP.fsub (bxS S j i) (bxS S a i)) (FP.fsub (bxS S a (3 + i)) (bxS S a i))) (y := FP.fdiv (FP.fsub (bxS S j (3 + i)) (bxS S a i)) (FP.fsub (bxS S a (3 + i)) (bxS S a i))) (tgt := 142) hx hb dX1_enterOfLine_133 dX1_enterOfLine_134 (by decide) (fun _ => ?_) (fun q => Bool.noConfusion (h5.symm.trans q))
          refine lv_fload hx hb dX1_enterOfLine_142 (lv_at hl 1 rfl) ?_
          refine lv_fstore (lv' := [(10, .float (FP.fdiv (FP.fsub (bxS S j (3 + i)) (bxS S a i)) (FP.fsub (bxS S a (3 + i)) (bxS S a i)))), (9, .float (FP.fdiv (FP.fsub (bxS S j i) (bxS S a i)) (FP.fsub (bxS S a (3 + i)) (bxS S a i)))), (8, .float (FP.fdiv (FP.fsub (bxS S j (3 + i)) (bxS S a i)) (FP.fsub (bxS S a (3 + i)) (bxS S a i)))), (7, .float (FP.fdiv (FP.fsub (bxS S j i) (bxS S a i)) (FP.fsub (bxS S a (3 + i)) (bxS S a i)))), (6, .float (FP.fsub (bxS S a (3 + i)) (bxS S a i))), (5, .float (bxS S a i)), (4, .int (nI i)), (3, .float lv), (2, .float en), (0, .ref (g_ad G 1 j)), (1, .ref (g_ad G 1 a))]) hx hb dX1_enterOfLine_144 hl (by decide) rfl (fun ls hl => ?_)
          refine lv_fload hx hb dX1_enterOfLine_146 (lv_at hl 1 rfl) ?_
          refine lv_fload_n hx hb dX1_enterOfLine_148 rfl (lv_at hl 8 rfl) ?_
          refine fc_lle (x := FP.fdiv (FP.fsub (bxS S j i) (bxS S a i)) (FP.fsub (bxS S a (3 + i)) (bxS S a i))) (y := en) (tgt := 158) hx hb dX1_enterOfLine_149 dX1_enterOfLine_150 (by decide) (fun h7 => ?_) (fun h7 => ?_)
          · skip
            refine lv_fload_n hx hb dX1_enterOfLine_158 rfl (lv_at hl 8 rfl) ?_
            refine lv_fstore_n (lv' := [(2, .float en), (10, .float (FP.fdiv (FP.fsub (bxS S j (3 + i)) (bxS S a i)) (FP.fsub (bxS S a (3 + i)) (bxS S a i)))), (9, .float (FP.fdiv (FP.fsub (bxS S j i) (bxS S a i)) (FP.fsub (bxS S a (3 + i)) (bxS S a i)))), (8, .float (FP.fdiv (FP.fsub (bxS S j (3 + i)) (bxS S a i)) (FP.fsub (bxS S a (3 + i)) (bxS S a i)))), (7, .float (FP.fdiv (FP.fsub (bxS S j i) (bxS S a i)) (FP.fsub (bxS S a (3 + i)) (bxS S a i)))), (6, .float (FP.fsub (bxS S a (3 + i)) (bxS S a i))), (5, .float (bxS S a i)), (4, .int (nI i)), (3, .float lv), (0, .ref (g_ad G 1 j)), (1, .ref (g_ad G 1 a))]) hx hb dX1_enterOfLine_159 rfl hl (by decide) rfl (fun ls hl => ?_)
            refine lv_fload hx hb dX1_enterOfLine_160 (lv_at hl 1 rfl) ?_
            refine lv_fload_n hx hb dX1_enterOfLine_162 rfl (lv_at hl 8 rfl) ?_
            refine fc_gge (x := FP.fdiv (FP.fsub (bxS S j (3 + i)) (bxS S a i)) (FP.fsub (bxS S a (3 + i)) (bxS S a i))) (y := lv) (tgt := 172) hx hb dX1_enterOfLine_163 dX1_enterOfLine_164 (by decide) (fun h8 => ?_) (fun h8 => ?_)
            · skip
              refine lv_fload_n hx hb dX1_enterOfLine_172 rfl (lv_at hl 8 rfl) ?_
              refine lv_fstore_n (lv' := [(3, .float lv), (2, .float en), (10, .float (FP.fdiv (FP.fsub (bxS S j (3 + i)) (bxS S a i)) (FP.fsub (bxS S a (3 + i)) (bxS S a i)))), (9, .float (FP.fdiv (FP.fsub (bxS S j i) (bxS S a i)) (FP.fsub (bxS S a (3 + i)) (bxS S a i)))), (8, .float (FP.fdiv (FP.fsub (bxS S j (3 + i)) (bxS S a i)) (FP.fsub (bxS S a (3 + i)) (bxS S a i)))), (7, .float (FP.fdiv (FP.fsub (bxS S j i) (bxS S a i)) (FP.fsub (bxS S a (3 + i)) (bxS S a i)))), (6, .float (FP.fsub (bxS S a (3 + i)) (bxS S a i))), (5, .float (bxS S a i)), (4, .int (nI i)), (0, .ref (g_ad G 1 j)), (1, .ref (g_ad G 1 a))]) hx hb dX1_enterOfLine_173 rfl hl (by decide) rfl (fun ls hl => ?_)
              refine lv_iinc (v := nI (i + 1)) (lv' := [(4, .int (nI (i + 1))), (3, .float lv), (2, .float en), (10, .float (FP.fdiv (FP.fsub (bxS S j (3 + i)) (bxS S a i)) (FP.fsub (bxS S a (3 + i)) (bxS S a i)))), (9, .float (FP.fdiv (FP.fsub (bxS S j i) (bxS S a i)) (FP.fsub (bxS S a (3 + i)) (bxS S a i)))), (8, .float (FP.fdiv (FP.fsub (bxS S j (3 + i)) (bxS S a i)) (FP.fsub (bxS S a (3 + i)) (bxS S a i)))), (7, .float (FP.fdiv (FP.fsub (bxS S j i) (bxS S a i)) (FP.fsub (bxS S a (3 + i)) (bxS S a i)))), (6, .float (FP.fsub (bxS S a (3 + i)) (bxS S a i))), (5, .float (bxS S a i)), (0, .ref (g_ad G 1 j)), (1, .ref (g_ad G 1 a))]) hx hb dX1_enterOfLine_174 hl (k := 8) rfl (nI_add i 1) (by decide) rfl (fun ls hl => ?_)
              refine lv_goto (tgt := 7) hx hb dX1_enterOfLine_177 (by decide) ?_
              exact ih (i + 1) en lv H locs ls (by omega) (by rw [← hq]; simp [enG, enA, enB, enD, h4, h5, h7, h8]) hw hS (lv_sub hl [0, 1, 2, 9, 10] rfl)
            · skip
              refine lv_fload hx hb dX1_enterOfLine_167 (lv_at hl 1 rfl) ?_
              refine lv_goto (tgt := 173) hx hb dX1_enterOfLine_169 (by decide) ?_
              refine lv_fstore_n (lv' := [(3, .float (FP.fdiv (FP.fsub (bxS S j (3 + i)) (bxS S a i)) (FP.fsub (bxS S a (3 + i)) (bxS S a i)))), (2, .float en), (10, .float (FP.fdiv (FP.fsub (bxS S j (3 + i)) (bxS S a i)) (FP.fsub (bxS S a (3 + i)) (bxS S a i)))), (9, .float (FP.fdiv (FP.fsub (bxS S j i) (bxS S a i)) (FP.fsub (bxS S a (3 + i)) (bxS S a i)))), (8, .float (FP.fdiv (FP.fsub (bxS S j (3 + i)) (bxS S a i)) (FP.fsub (bxS S a (3 + i)) (bxS S a i)))), (7, .float (FP.fdiv (FP.fsub (bxS S j i) (bxS S a i)) (FP.fsub (bxS S a (3 + i)) (bxS S a i)))), (6, .float (FP.fsub (bxS S a (3 + i)) (bxS S a i))), (5, .float (bxS S a i)), (4, .int (nI i)), (0, .ref (g_ad G 1 j)), (1, .ref (g_ad G 1 a))]) hx hb dX1_enterOfLine_173 rfl hl (by decide) rfl (fun ls hl => ?_)
              refine lv_iinc (v := nI (i + 1)) (lv' := [(4, .int (nI (i + 1))), (3, .float (FP.fdiv (FP.fsub (bxS S j (3 + i)) (bxS S a i)) (FP.fsub (bxS S a (3 + i)) (bxS S a i)))), (2, .float en), (10, .float (FP.fdiv (FP.fsub (bxS S j (3 + i)) (bxS S a i)) (FP.fsub (bxS S a (3 + i)) (bxS S a i)))), (9, .float (FP.fdiv (FP.fsub (bxS S j i) (bxS S a i)) (FP.fsub (bxS S a (3 + i)) (bxS S a i)))), (8, .float (FP.fdiv (FP.fsub (bxS S j (3 + i)) (bxS S a i)) (FP.fsub (bxS S a (3 + i)) (bxS S a i)))), (7, .float (FP.fdiv (FP.fsub (bxS S j i) (bxS S a i)) (FP.fsub (bxS S a (3 + i)) (bxS S a i)))), (6, .float (FP.fsub (bxS S a (3 + i)) (bxS S a i))), (5, .float (bxS S a i)), (0, .ref (g_ad G 1 j)), (1, .ref (g_ad G 1 a))]) hx hb dX1_enterOfLine_174 hl (k := 8) rfl (nI_add i 1) (by decide) rfl (fun ls hl => ?_)
              refine lv_goto (tgt := 7) hx hb dX1_enterOfLine_177 (by decide) ?_
              exact ih (i + 1) en (FP.fdiv (FP.fsub (bxS S j (3 + i)) (bxS S a i)) (FP.fsub (bxS S a (3 + i)) (bxS S a i))) H locs ls (by omega) (by rw [← hq]; simp [enG, enA, enB, enD, h4, h5, h7, h8]) hw hS (lv_sub hl [0, 1, 2, 9, 10] rfl)
          · skip
            refine lv_fload hx hb dX1_enterOfLine_153 (lv_at hl 1 rfl) ?_
            refine lv_goto (tgt := 159) hx hb dX1_enterOfLine_155 (by decide) ?_
            refine lv_fstore_n (lv' := [(2, .float (FP.fdiv (FP.fsub (bxS S j i) (bxS S a i)) (FP.fsub (bxS S a (3 + i)) (bxS S a i)))), (10, .float (FP.fdiv (FP.fsub (bxS S j (3 + i)) (bxS S a i)) (FP.fsub (bxS S a (3 + i)) (bxS S a i)))), (9, .float (FP.fdiv (FP.fsub (bxS S j i) (bxS S a i)) (FP.fsub (bxS S a (3 + i)) (bxS S a i)))), (8, .float (FP.fdiv (FP.fsub (bxS S j (3 + i)) (bxS S a i)) (FP.fsub (bxS S a (3 + i)) (bxS S a i)))), (7, .float (FP.fdiv (FP.fsub (bxS S j i) (bxS S a i)) (FP.fsub (bxS S a (3 + i)) (bxS S a i)))), (6, .float (FP.fsub (bxS S a (3 + i)) (bxS S a i))), (5, .float (bxS S a i)), (4, .int (nI i)), (3, .float lv), (0, .ref (g_ad G 1 j)), (1, .ref (g_ad G 1 a))]) hx hb dX1_enterOfLine_159 rfl hl (by decide) rfl (fun ls hl => ?_)
            refine lv_fload hx hb dX1_enterOfLine_160 (lv_at hl 1 rfl) ?_
            refine lv_fload_n hx hb dX1_enterOfLine_162 rfl (lv_at hl 8 rfl) ?_
            refine fc_gge (x := FP.fdiv (FP.fsub (bxS S j (3 + i)) (bxS S a i)) (FP.fsub (bxS S a (3 + i)) (bxS S a i))) (y := lv) (tgt := 172) hx hb dX1_enterOfLine_163 dX1_enterOfLine_164 (by decide) (fun h9 => ?_) (fun h9 => ?_)
            · skip
              refine lv_fload_n hx hb dX1_enterOfLine_172 rfl (lv_at hl 8 rfl) ?_
              refine lv_fstore_n (lv' := [(3, .float lv), (2, .float (FP.fdiv (FP.fsub (bxS S j i) (bxS S a i)) (FP.fsub (bxS S a (3 + i)) (bxS S a i)))), (10, .float (FP.fdiv (FP.fsub (bxS S j (3 + i)) (bxS S a i)) (FP.fsub (bxS S a (3 + i)) (bxS S a i)))), (9, .float (FP.fdiv (FP.fsub (bxS S j i) (bxS S a i)) (FP.fsub (bxS S a (3 + i)) (bxS S a i)))), (8, .float (FP.fdiv (FP.fsub (bxS S j (3 + i)) (bxS S a i)) (FP.fsub (bxS S a (3 + i)) (bxS S a i)))), (7, .float (FP.fdiv (FP.fsub (bxS S j i) (bxS S a i)) (FP.fsub (bxS S a (3 + i)) (bxS S a i)))), (6, .float (FP.fsub (bxS S a (3 + i)) (bxS S a i))), (5, .float (bxS S a i)), (4, .int (nI i)), (0, .ref (g_ad G 1 j)), (1, .ref (g_ad G 1 a))]) hx hb dX1_enterOfLine_173 rfl hl (by decide) rfl (fun ls hl => ?_)
              refine lv_iinc (v := nI (i + 1)) (lv' := [(4, .int (nI (i + 1))), (3, .float lv), (2, .float (FP.fdiv (FP.fsub (bxS S j i) (bxS S a i)) (FP.fsub (bxS S a (3 + i)) (bxS S a i)))), (10, .float (FP.fdiv (FP.fsub (bxS S j (3 + i)) (bxS S a i)) (FP.fsub (bxS S a (3 + i)) (bxS S a i)))), (9, .float (FP.fdiv (FP.fsub (bxS S j i) (bxS S a i)) (FP.fsub (bxS S a (3 + i)) (bxS S a i)))), (8, .float (FP.fdiv (FP.fsub (bxS S j (3 + i)) (bxS S a i)) (FP.fsub (bxS S a (3 + i)) (bxS S a i)))), (7, .float (FP.fdiv (FP.fsub (bxS S j i) (bxS S a i)) (FP.fsub (bxS S a (3 + i)) (bxS S a i)))), (6, .float (FP.fsub (bxS S a (3 + i)) (bxS S a i))), (5, .float (bxS S a i)), (0, .ref (g_ad G 1 j)), (1, .ref (g_ad G 1 a))]) hx hb dX1_enterOfLine_174 hl (k := 8) rfl (nI_add i 1) (by decide) rfl (fun ls hl => ?_)
              refine lv_goto (tgt := 7) hx hb dX1_enterOfLine_177 (by decide) ?_
              exact ih (i + 1) (FP.fdiv (FP.fsub (bxS S j i) (bxS S a i)) (FP.fsub (bxS S a (3 + i)) (bxS S a i))) lv H locs ls (by omega) (by rw [← hq]; simp [enG, enA, enB, enD, h4, h5, h7, h9]) hw hS (lv_sub hl [0, 1, 2, 9, 10] rfl)
            · skip
              refine lv_fload hx hb dX1_enterOfLine_167 (lv_at hl 1 rfl) ?_
              refine lv_goto (tgt := 173) hx hb dX1_enterOfLine_169 (by decide) ?_
              refine lv_fstore_n (lv' := [(3, .float (FP.fdiv (FP.fsub (bxS S j (3 + i)) (bxS S a i)) (FP.fsub (bxS S a (3 + i)) (bxS S a i)))), (2, .float (FP.fdiv (FP.fsub (bxS S j i) (bxS S a i)) (FP.fsub (bxS S a (3 + i)) (bxS S a i)))), (10, .float (FP.fdiv (FP.fsub (bxS S j (3 + i)) (bxS S a i)) (FP.fsub (bxS S a (3 + i)) (bxS S a i)))), (9, .float (FP.fdiv (FP.fsub (bxS S j i) (bxS S a i)) (FP.fsub (bxS S a (3 + i)) (bxS S a i)))), (8, .float (FP.fdiv (FP.fsub (bxS S j (3 + i)) (bxS S a i)) (FP.fsub (bxS S a (3 + i)) (bxS S a i)))), (7, .float (FP.fdiv (FP.fsub (bxS S j i) (bxS S a i)) (FP.fsub (bxS S a (3 + i)) (bxS S a i)))), (6, .float (FP.fsub (bxS S a (3 + i)) (bxS S a i))), (5, .float (bxS S a i)), (4, .int (nI i)), (0, .ref (g_ad G 1 j)), (1, .ref (g_ad G 1 a))]) hx hb dX1_enterOfLine_173 rfl hl (by decide) rfl (fun ls hl => ?_)
              refine lv_iinc (v := nI (i + 1)) (lv' := [(4, .int (nI (i + 1))), (3, .float (FP.fdiv (FP.fsub (bxS S j (3 + i)) (bxS S a i)) (FP.fsub (bxS S a (3 + i)) (bxS S a i)))), (2, .float (FP.fdiv (FP.fsub (bxS S j i) (bxS S a i)) (FP.fsub (bxS S a (3 + i)) (bxS S a i)))), (10, .float (FP.fdiv (FP.fsub (bxS S j (3 + i)) (bxS S a i)) (FP.fsub (bxS S a (3 + i)) (bxS S a i)))), (9, .float (FP.fdiv (FP.fsub (bxS S j i) (bxS S a i)) (FP.fsub (bxS S a (3 + i)) (bxS S a i)))), (8, .float (FP.fdiv (FP.fsub (bxS S j (3 + i)) (bxS S a i)) (FP.fsub (bxS S a (3 + i)) (bxS S a i)))), (7, .float (FP.fdiv (FP.fsub (bxS S j i) (bxS S a i)) (FP.fsub (bxS S a (3 + i)) (bxS S a i)))), (6, .float (FP.fsub (bxS S a (3 + i)) (bxS S a i))), (5, .float (bxS S a i)), (0, .ref (g_ad G 1 j)), (1, .ref (g_ad G 1 a))]) hx hb dX1_enterOfLine_174 hl (k := 8) rfl (nI_add i 1) (by decide) rfl (fun ls hl => ?_)
              refine lv_goto (tgt := 7) hx hb dX1_enterOfLine_177 (by decide) ?_
              exact ih (i + 1) (FP.fdiv (FP.fsub (bxS S j i) (bxS S a i)) (FP.fsub (bxS S a (3 + i)) (bxS S a i))) (FP.fdiv (FP.fsub (bxS S j (3 + i)) (bxS S a i)) (FP.fsub (bxS S a (3 + i)) (bxS S a i))) H locs ls (by omega) (by rw [← hq]; simp [enG, enA, enB, enD, h4, h5, h7, h9]) hw hS (lv_sub hl [0, 1, 2, 9, 10] rfl)
        · skip
          refine lv_fload hx hb dX1_enterOfLine_120 (lv_at hl 0 rfl) ?_
          refine lv_goto (tgt := 127) hx hb dX1_enterOfLine_122 (by decide) ?_
          refine lv_fstore (lv' := [(9, .float (FP.fdiv (FP.fsub (bxS S j (3 + i)) (bxS S a i)) (FP.fsub (bxS S a (3 + i)) (bxS S a i)))), (8, .float (FP.fdiv (FP.fsub (bxS S j (3 + i)) (bxS S a i)) (FP.fsub (bxS S a (3 + i)) (bxS S a i)))), (7, .float (FP.fdiv (FP.fsub (bxS S j i) (bxS S a i)) (FP.fsub (bxS S a (3 + i)) (bxS S a i)))), (6, .float (FP.fsub (bxS S a (3 + i)) (bxS S a i))), (5, .float (bxS S a i)), (4, .int (nI i)), (3, .float lv), (2, .float en), (0, .ref (g_ad G 1 j)), (1, .ref (g_ad G 1 a))]) hx hb dX1_enterOfLine_127 hl (by decide) rfl (fun ls hl => ?_)
          refine lv_fload hx hb dX1_enterOfLine_129 (lv_at hl 2 rfl) ?_
          refine lv_fload hx hb dX1_enterOfLine_131 (lv_at hl 1 rfl) ?_
          refine fc_lle (x := FP.fdiv (FP.fsub (bxS S j i) (bxS S a i)) (FP.fsub (bxS S a (3 + i)) (bxS S a i))) (y := FP.fdiv (FP.fsub (bxS S j (3 + i)) (bxS S a i)) (FP.fsub (bxS S a (3 + i)) (bxS S a i))) (tgt := 142) hx hb dX1_enterOfLine_133 dX1_enterOfLine_134 (by decide) (fun q => Bool.noConfusion (h5.symm.trans q)) (fun _ => ?_)
          refine lv_fload hx hb dX1_enterOfLine_137 (lv_at hl 2 rfl) ?_
          refine lv_goto (tgt := 144) hx hb dX1_enterOfLine_139 (by decide) ?_
          refine lv_fstore (lv' := [(10, .float (FP.fdiv (FP.fsub (bxS S j i) (bxS S a i)) (FP.fsub (bxS S a (3 + i)) (bxS S a i)))), (9, .float (FP.fdiv (FP.fsub (bxS S j (3 + i)) (bxS S a i)) (FP.fsub (bxS S a (3 + i)) (bxS S a i)))), (8, .float (FP.fdiv (FP.fsub (bxS S j (3 + i)) (bxS S a i)) (FP.fsub (bxS S a (3 + i)) (bxS S a i)))), (7, .float (FP.fdiv (FP.fsub (bxS S j i) (bxS S a i)) (FP.fsub (bxS S a (3 + i)) (bxS S a i)))), (6, .float (FP.fsub (bxS S a (3 + i)) (bxS S a i))), (5, .float (bxS S a i)), (4, .int (nI i)), (3, .float lv), (2, .float en), (0, .ref (g_ad G 1 j)), (1, .ref (g_ad G 1 a))]) hx hb dX1_enterOfLine_144 hl (by decide) rfl (fun ls hl => ?_)
          refine lv_fload hx hb dX1_enterOfLine_146 (lv_at hl 1 rfl) ?_
          refine lv_fload_n hx hb dX1_enterOfLine_148 rfl (lv_at hl 8 rfl) ?_
          refine fc_lle (x := FP.fdiv (FP.fsub (bxS S j (3 + i)) (bxS S a i)) (FP.fsub (bxS S a (3 + i)) (bxS S a i))) (y := en) (tgt := 158) hx hb dX1_enterOfLine_149 dX1_enterOfLine_150 (by decide) (fun h11 => ?_) (fun h11 => ?_)
          · skip
            refine lv_fload_n hx hb dX1_enterOfLine_158 rfl (lv_at hl 8 rfl) ?_
            refine lv_fstore_n (lv' := [(2, .float en), (10, .float (FP.fdiv (FP.fsub (bxS S j i) (bxS S a i)) (FP.fsub (bxS S a (3 + i)) (bxS S a i)))), (9, .float (FP.fdiv (FP.fsub (bxS S j (3 + i)) (bxS S a i)) (FP.fsub (bxS S a (3 + i)) (bxS S a i)))), (8, .float (FP.fdiv (FP.fsub (bxS S j (3 + i)) (bxS S a i)) (FP.fsub (bxS S a (3 + i)) (bxS S a i)))), (7, .float (FP.fdiv (FP.fsub (bxS S j i) (bxS S a i)) (FP.fsub (bxS S a (3 + i)) (bxS S a i)))), (6, .float (FP.fsub (bxS S a (3 + i)) (bxS S a i))), (5, .float (bxS S a i)), (4, .int (nI i)), (3, .float lv), (0, .ref (g_ad G 1 j)), (1, .ref (g_ad G 1 a))]) hx hb dX1_enterOfLine_159 rfl hl (by decide) rfl (fun ls hl => ?_)
            refine lv_fload hx hb dX1_enterOfLine_160 (lv_at hl 1 rfl) ?_
            refine lv_fload_n hx hb dX1_enterOfLine_162 rfl (lv_at hl 8 rfl) ?_
            refine fc_gge (x := FP.fdiv (FP.fsub (bxS S j i) (bxS S a i)) (FP.fsub (bxS S a (3 + i)) (bxS S a i))) (y := lv) (tgt := 172) hx hb dX1_enterOfLine_163 dX1_enterOfLine_164 (by decide) (fun h12 => ?_) (fun h12 => ?_)
            · skip
              refine lv_fload_n hx hb dX1_enterOfLine_172 rfl (lv_at hl 8 rfl) ?_
              refine lv_fstore_n (lv' := [(3, .float lv), (2, .float en), (10, .float (FP.fdiv (FP.fsub (bxS S j i) (bxS S a i)) (FP.fsub (bxS S a (3 + i)) (bxS S a i)))), (9, .float (FP.fdiv (FP.fsub (bxS S j (3 + i)) (bxS S a i)) (FP.fsub (bxS S a (3 + i)) (bxS S a i)))), (8, .float (FP.fdiv (FP.fsub (bxS S j (3 + i)) (bxS S a i)) (FP.fsub (bxS S a (3 + i)) (bxS S a i)))), (7, .float (FP.fdiv (FP.fsub (bxS S j i) (bxS S a i)) (FP.fsub (bxS S a (3 + i)) (bxS S a i)))), (6, .float (FP.fsub (bxS S a (3 + i)) (bxS S a i))), (5, .float (bxS S a i)), (4, .int (nI i)), (0, .ref (g_ad G 1 j)), (1, .ref (g_ad G 1 a))]) hx hb dX1_enterOfLine_173 rfl hl (by decide) rfl (fun ls hl => ?_)
              refine lv_iinc (v := nI (i + 1)) (lv' := [(4, .int (nI (i + 1))), (3, .float lv), (2, .float en), (10, .float (FP.fdiv (FP.fsub (bxS S j i) (bxS S a i)) (FP.fsub (bxS S a (3 + i)) (bxS S a i)))), (9, .float (FP.fdiv (FP.fsub (bxS S j (3 + i)) (bxS S a i)) (FP.fsub (bxS S a (3 + i)) (bxS S a i)))), (8, .float (FP.fdiv (FP.fsub (bxS S j (3 + i)) (bxS S a i)) (FP.fsub (bxS S a (3 + i)) (bxS S a i)))), (7, .float (FP.fdiv (FP.fsub (bxS S j i) (bxS S a i)) (FP.fsub (bxS S a (3 + i)) (bxS S a i)))), (6, .float (FP.fsub (bxS S a (3 + i)) (bxS S a i))), (5, .float (bxS S a i)), (0, .ref (g_ad G 1 j)), (1, .ref (g_ad G 1 a))]) hx hb dX1_enterOfLine_174 hl (k := 8) rfl (nI_add i 1) (by decide) rfl (fun ls hl => ?_)
              refine lv_goto (tgt := 7) hx hb dX1_enterOfLine_177 (by decide) ?_
              exact ih (i + 1) en lv H locs ls (by omega) (by rw [← hq]; simp [enG, enA, enB, enD, h4, h5, h11, h12]) hw hS (lv_sub hl [0, 1, 2, 9, 10] rfl)
            · skip
              refine lv_fload hx hb dX1_enterOfLine_167 (lv_at hl 1 rfl) ?_
              refine lv_goto (tgt := 173) hx hb dX1_enterOfLine_169 (by decide) ?_
              refine lv_fstore_n (lv' := [(3, .float (FP.fdiv (FP.fsub (bxS S j i) (bxS S a i)) (FP.fsub (bxS S a (3 + i)) (bxS S a i)))), (2, .float en), (10, .float (FP.fdiv (FP.fsub (bxS S j i) (bxS S a i)) (FP.fsub (bxS S a (3 + i)) (bxS S a i)))), (9, .float (FP.fdiv (FP.fsub (bxS S j (3 + i)) (bxS S a i)) (FP.fsub (bxS S a (3 + i)) (bxS S a i)))), (8, .float (FP.fdiv (FP.fsub (bxS S j (3 + i)) (bxS S a i)) (FP.fsub (bxS S a (3 + i)) (bxS S a i)))), (7, .float (FP.fdiv (FP.fsub (bxS S j i) (bxS S a i)) (FP.fsub (bxS S a (3 + i)) (bxS S a i)))), (6, .float (FP.fsub (bxS S a (3 + i)) (bxS S a i))), (5, .float (bxS S a i)), (4, .int (nI i)), (0, .ref (g_ad G 1 j)), (1, .ref (g_ad G 1 a))]) hx hb dX1_enterOfLine_173 rfl hl (by decide) rfl (fun ls hl => ?_)
              refine lv_iinc (v := nI (i + 1)) (lv' := [(4, .int (nI (i + 1))), (3, .float (FP.fdiv (FP.fsub (bxS S j i) (bxS S a i)) (FP.fsub (bxS S a (3 + i)) (bxS S a i)))), (2, .float en), (10, .float (FP.fdiv (FP.fsub (bxS S j i) (bxS S a i)) (FP.fsub (bxS S a (3 + i)) (bxS S a i)))), (9, .float (FP.fdiv (FP.fsub (bxS S j (3 + i)) (bxS S a i)) (FP.fsub (bxS S a (3 + i)) (bxS S a i)))), (8, .float (FP.fdiv (FP.fsub (bxS S j (3 + i)) (bxS S a i)) (FP.fsub (bxS S a (3 + i)) (bxS S a i)))), (7, .float (FP.fdiv (FP.fsub (bxS S j i) (bxS S a i)) (FP.fsub (bxS S a (3 + i)) (bxS S a i)))), (6, .float (FP.fsub (bxS S a (3 + i)) (bxS S a i))), (5, .float (bxS S a i)), (0, .ref (g_ad G 1 j)), (1, .ref (g_ad G 1 a))]) hx hb dX1_enterOfLine_174 hl (k := 8) rfl (nI_add i 1) (by decide) rfl (fun ls hl => ?_)
              refine lv_goto (tgt := 7) hx hb dX1_enterOfLine_177 (by decide) ?_
              exact ih (i + 1) en (FP.fdiv (FP.fsub (bxS S j i) (bxS S a i)) (FP.fsub (bxS S a (3 + i)) (bxS S a i))) H locs ls (by omega) (by rw [← hq]; simp [enG, enA, enB, enD, h4, h5, h11, h12]) hw hS (lv_sub hl [0, 1, 2, 9, 10] rfl)
          · skip
            refine lv_fload hx hb dX1_enterOfLine_153 (lv_at hl 1 rfl) ?_
            refine lv_goto (tgt := 159) hx hb dX1_enterOfLine_155 (by decide) ?_
            refine lv_fstore_n (lv' := [(2, .float (FP.fdiv (FP.fsub (bxS S j (3 + i)) (bxS S a i)) (FP.fsub (bxS S a (3 + i)) (bxS S a i)))), (10, .float (FP.fdiv (FP.fsub (bxS S j i) (bxS S a i)) (FP.fsub (bxS S a (3 + i)) (bxS S a i)))), (9, .float (FP.fdiv (FP.fsub (bxS S j (3 + i)) (bxS S a i)) (FP.fsub (bxS S a (3 + i)) (bxS S a i)))), (8, .float (FP.fdiv (FP.fsub (bxS S j (3 + i)) (bxS S a i)) (FP.fsub (bxS S a (3 + i)) (bxS S a i)))), (7, .float (FP.fdiv (FP.fsub (bxS S j i) (bxS S a i)) (FP.fsub (bxS S a (3 + i)) (bxS S a i)))), (6, .float (FP.fsub (bxS S a (3 + i)) (bxS S a i))), (5, .float (bxS S a i)), (4, .int (nI i)), (3, .float lv), (0, .ref (g_ad G 1 j)), (1, .ref (g_ad G 1 a))]) hx hb dX1_enterOfLine_159 rfl hl (by decide) rfl (fun ls hl => ?_)
            refine lv_fload hx hb dX1_enterOfLine_160 (lv_at hl 1 rfl) ?_
            refine lv_fload_n hx hb dX1_enterOfLine_162 rfl (lv_at hl 8 rfl) ?_
            refine fc_gge (x := FP.fdiv (FP.fsub (bxS S j i) (bxS S a i)) (FP.fsub (bxS S a (3 + i)) (bxS S a i))) (y := lv) (tgt := 172) hx hb dX1_enterOfLine_163 dX1_enterOfLine_164 (by decide) (fun h13 => ?_) (fun h13 => ?_)
            · skip
              refine lv_fload_n hx hb dX1_enterOfLine_172 rfl (lv_at hl 8 rfl) ?_
              refine lv_fstore_n (lv' := [(3, .float lv), (2, .float (FP.fdiv (FP.fsub (bxS S j (3 + i)) (bxS S a i)) (FP.fsub (bxS S a (3 + i)) (bxS S a i)))), (10, .float (FP.fdiv (FP.fsub (bxS S j i) (bxS S a i)) (FP.fsub (bxS S a (3 + i)) (bxS S a i)))), (9, .float (FP.fdiv (FP.fsub (bxS S j (3 + i)) (bxS S a i)) (FP.fsub (bxS S a (3 + i)) (bxS S a i)))), (8, .float (FP.fdiv (FP.fsub (bxS S j (3 + i)) (bxS S a i)) (FP.fsub (bxS S a (3 + i)) (bxS S a i)))), (7, .float (FP.fdiv (FP.fsub (bxS S j i) (bxS S a i)) (FP.fsub (bxS S a (3 + i)) (bxS S a i)))), (6, .float (FP.fsub (bxS S a (3 + i)) (bxS S a i))), (5, .float (bxS S a i)), (4, .int (nI i)), (0, .ref (g_ad G 1 j)), (1, .ref (g_ad G 1 a))]) hx hb dX1_enterOfLine_173 rfl hl (by decide) rfl (fun ls hl => ?_)
              refine lv_iinc (v := nI (i + 1)) (lv' := [(4, .int (nI (i + 1))), (3, .float lv), (2, .float (FP.fdiv (FP.fsub (bxS S j (3 + i)) (bxS S a i)) (FP.fsub (bxS S a (3 + i)) (bxS S a i)))), (10, .float (FP.fdiv (FP.fsub (bxS S j i) (bxS S a i)) (FP.fsub (bxS S a (3 + i)) (bxS S a i)))), (9, .float (FP.fdiv (FP.fsub (bxS S j (3 + i)) (bxS S a i)) (FP.fsub (bxS S a (3 + i)) (bxS S a i)))), (8, .float (FP.fdiv (FP.fsub (bxS S j (3 + i)) (bxS S a i)) (FP.fsub (bxS S a (3 + i)) (bxS S a i)))), (7, .float (FP.fdiv (FP.fsub (bxS S j i) (bxS S a i)) (FP.fsub (bxS S a (3 + i)) (bxS S a i)))), (6, .float (FP.fsub (bxS S a (3 + i)) (bxS S a i))), (5, .float (bxS S a i)), (0, .ref (g_ad G 1 j)), (1, .ref (g_ad G 1 a))]) hx hb dX1_enterOfLine_174 hl (k := 8) rfl (nI_add i 1) (by decide) rfl (fun ls hl => ?_)
              refine lv_goto (tgt := 7) hx hb dX1_enterOfLine_177 (by decide) ?_
              exact ih (i + 1) (FP.fdiv (FP.fsub (bxS S j (3 + i)) (bxS S a i)) (FP.fsub (bxS S a (3 + i)) (bxS S a i))) lv H locs ls (by omega) (by rw [← hq]; simp [enG, enA, enB, enD, h4, h5, h11, h13]) hw hS (lv_sub hl [0, 1, 2, 9, 10] rfl)
            · skip
              refine lv_fload hx hb dX1_enterOfLine_167 (lv_at hl 1 rfl) ?_
              refine lv_goto (tgt := 173) hx hb dX1_enterOfLine_169 (by decide) ?_
              refine lv_fstore_n (lv' := [(3, .float (FP.fdiv (FP.fsub (bxS S j i) (bxS S a i)) (FP.fsub (bxS S a (3 + i)) (bxS S a i)))), (2, .float (FP.fdiv (FP.fsub (bxS S j (3 + i)) (bxS S a i)) (FP.fsub (bxS S a (3 + i)) (bxS S a i)))), (10, .float (FP.fdiv (FP.fsub (bxS S j i) (bxS S a i)) (FP.fsub (bxS S a (3 + i)) (bxS S a i)))), (9, .float (FP.fdiv (FP.fsub (bxS S j (3 + i)) (bxS S a i)) (FP.fsub (bxS S a (3 + i)) (bxS S a i)))), (8, .float (FP.fdiv (FP.fsub (bxS S j (3 + i)) (bxS S a i)) (FP.fsub (bxS S a (3 + i)) (bxS S a i)))), (7, .float (FP.fdiv (FP.fsub (bxS S j i) (bxS S a i)) (FP.fsub (bxS S a (3 + i)) (bxS S a i)))), (6, .float (FP.fsub (bxS S a (3 + i)) (bxS S a i))), (5, .float (bxS S a i)), (4, .int (nI i)), (0, .ref (g_ad G 1 j)), (1, .ref (g_ad G 1 a))]) hx hb dX1_enterOfLine_173 rfl hl (by decide) rfl (fun ls hl => ?_)
              refine lv_iinc (v := nI (i + 1)) (lv' := [(4, .int (nI (i + 1))), (3, .float (FP.fdiv (FP.fsub (bxS S j i) (bxS S a i)) (FP.fsub (bxS S a (3 + i)) (bxS S a i)))), (2, .float (FP.fdiv (FP.fsub (bxS S j (3 + i)) (bxS S a i)) (FP.fsub (bxS S a (3 + i)) (bxS S a i)))), (10, .float (FP.fdiv (FP.fsub (bxS S j i) (bxS S a i)) (FP.fsub (bxS S a (3 + i)) (bxS S a i)))), (9, .float (FP.fdiv (FP.fsub (bxS S j (3 + i)) (bxS S a i)) (FP.fsub (bxS S a (3 + i)) (bxS S a i)))), (8, .float (FP.fdiv (FP.fsub (bxS S j (3 + i)) (bxS S a i)) (FP.fsub (bxS S a (3 + i)) (bxS S a i)))), (7, .float (FP.fdiv (FP.fsub (bxS S j i) (bxS S a i)) (FP.fsub (bxS S a (3 + i)) (bxS S a i)))), (6, .float (FP.fsub (bxS S a (3 + i)) (bxS S a i))), (5, .float (bxS S a i)), (0, .ref (g_ad G 1 j)), (1, .ref (g_ad G 1 a))]) hx hb dX1_enterOfLine_174 hl (k := 8) rfl (nI_add i 1) (by decide) rfl (fun ls hl => ?_)
              refine lv_goto (tgt := 7) hx hb dX1_enterOfLine_177 (by decide) ?_
              exact ih (i + 1) (FP.fdiv (FP.fsub (bxS S j (3 + i)) (bxS S a i)) (FP.fsub (bxS S a (3 + i)) (bxS S a i))) (FP.fdiv (FP.fsub (bxS S j i) (bxS S a i)) (FP.fsub (bxS S a (3 + i)) (bxS S a i))) H locs ls (by omega) (by rw [← hq]; simp [enG, enA, enB, enD, h4, h5, h11, h13]) hw hS (lv_sub hl [0, 1, 2, 9, 10] rfl)
      · skip
        refine lv_fload hx hb dX1_enterOfLine_45 (lv_at hl 1 rfl) ?_
        refine lv_aload_n hx hb dX1_enterOfLine_47 rfl (lv_at hl 5 rfl) ?_
        refine gf hx hb hown hts hw hT 1 j (show j < 1026 by omega) (ci := 1) rfl rfl (fun _ h => List.mem_cons_of_mem _ (List.mem_append_right _ h)) 0 (by decide) (List.mem_of_getElem? (i := 1) rfl) (v := .ref (g_ad G 2 j)) rfl dX1_enterOfLine_48 ?_
        refine lv_iconst (v := nI 0) hx hb dX1_enterOfLine_51 (by decide) ?_
        refine lv_iload hx hb dX1_enterOfLine_52 (lv_at hl 2 rfl) ?_
        refine lv_iadd hx hb dX1_enterOfLine_54 ?_
        refine top_i (y := nI i) ((nI_add 0 i).trans (by rw [Nat.zero_add])) ?_
        refine afl hx hb hw hT 2 j (show j < 1026 by omega) (f := bxS S j) rfl i (show i < 6 by omega) (by decide) dX1_enterOfLine_55 ?_
        refine fc_glt (x := bxS S a i) (y := bxS S j i) (tgt := 75) hx hb dX1_enterOfLine_56 dX1_enterOfLine_57 (by decide) (fun h14 => ?_) (fun h14 => ?_)
        · skip
          refine lv_ldcf (v := 3212836864) hx hb hown (hts _ (List.mem_of_getElem? (i := 2) rfl)) dX1_enterOfLine_75 ?_
          exact rf hx hb hlk hr hw hS (by rw [← hq]; simp [enG, enA, enB, enD, h4, h14]) (Nat.le_of_ble_eq_true rfl) (Nat.le_of_ble_eq_true rfl) dX1_enterOfLine_77
        · skip
          refine lv_fload hx hb dX1_enterOfLine_60 (lv_at hl 1 rfl) ?_
          refine lv_aload_n hx hb dX1_enterOfLine_62 rfl (lv_at hl 5 rfl) ?_
          refine gf hx hb hown hts hw hT 1 j (show j < 1026 by omega) (ci := 1) rfl rfl (fun _ h => List.mem_cons_of_mem _ (List.mem_append_right _ h)) 0 (by decide) (List.mem_of_getElem? (i := 1) rfl) (v := .ref (g_ad G 2 j)) rfl dX1_enterOfLine_63 ?_
          refine lv_iconst (v := nI 3) hx hb dX1_enterOfLine_66 (by decide) ?_
          refine lv_iload hx hb dX1_enterOfLine_67 (lv_at hl 2 rfl) ?_
          refine lv_iadd hx hb dX1_enterOfLine_69 ?_
          refine top_i (y := nI (3 + i)) (nI_add 3 i) ?_
          refine afl hx hb hw hT 2 j (show j < 1026 by omega) (f := bxS S j) rfl (3 + i) (show 3 + i < 6 by omega) (by decide) dX1_enterOfLine_70 ?_
          refine fc_lle (x := bxS S a i) (y := bxS S j (3 + i)) (tgt := 174) hx hb dX1_enterOfLine_71 dX1_enterOfLine_72 (by decide) (fun h15 => ?_) (fun h15 => ?_)
          · skip
            refine lv_iinc (v := nI (i + 1)) (lv' := [(4, .int (nI (i + 1))), (6, .float (FP.fsub (bxS S a (3 + i)) (bxS S a i))), (5, .float (bxS S a i)), (3, .float lv), (2, .float en), (0, .ref (g_ad G 1 j)), (1, .ref (g_ad G 1 a))]) hx hb dX1_enterOfLine_174 hl (k := 2) rfl (nI_add i 1) (by decide) rfl (fun ls hl => ?_)
            refine lv_goto (tgt := 7) hx hb dX1_enterOfLine_177 (by decide) ?_
            exact ih (i + 1) en lv H locs ls (by omega) (by rw [← hq]; simp [enG, enA, enB, enD, h4, h14, h15]) hw hS (lv_sub hl [0, 3, 4, 5, 6] rfl)
          · skip
            refine lv_ldcf (v := 3212836864) hx hb hown (hts _ (List.mem_of_getElem? (i := 2) rfl)) dX1_enterOfLine_75 ?_
            exact rf hx hb hlk hr hw hS (by rw [← hq]; simp [enG, enA, enB, enD, h4, h14, h15]) (Nat.le_of_ble_eq_true rfl) (Nat.le_of_ble_eq_true rfl) dX1_enterOfLine_77
  exact LOOP 3 0 FP.fconst0 FP.fconst1 _ _ ls (by omega) rfl hw hS (lv_sub hl [0, 1, 2, 3, 4] rfl)
