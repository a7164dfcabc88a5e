/-! PairFinder: its small methods -/
theorem nz_le {a : Nat} (h : a < 2 ^ 31) : nI a ≤ 0 ↔ a = 0 := by
  have := nI_leI (a := a) (b := 0) h (by decide)
  rw [nI_0] at this
  rw [this]; omega
theorem nz_eq {a : Nat} (h : a < 2 ^ 31) : nI a = 0 ↔ a = 0 := by
  have := nI_eq (a := a) (b := 0) h (by decide)
  rw [nI_0] at this
  exact this
def orX (a b : Option String) : Option String := match a with
  | none => b
  | some e => some e
def kN (k : Int32) : Nat := k.toNatClampNeg
theorem kN_nI {j : Nat} (h : j < 65536) : kN (nI j) = j := nI_clamp (by omega)
def bnF (k : Int32) : Bool := !(decide (k < 0)) && decide (k < nI 512)
theorem bn_nat {k : Int32} (h : bnF k = true) : ∃ j, j < 512 ∧ k = nI j := by
  unfold bnF at h
  simp only [Bool.and_eq_true, Bool.not_eq_true', decide_eq_false_iff_not, decide_eq_true_eq] at h
  obtain ⟨j, hj, rfl⟩ := nI_of h.1
  exact ⟨j, (nI_ltI hj (by decide)).mp h.2, rfl⟩
theorem bn_nI {j : Nat} (h : j < 512) : bnF (nI j) = true := by
  unfold bnF
  simp only [Bool.and_eq_true, Bool.not_eq_true', decide_eq_false_iff_not, decide_eq_true_eq]
  exact ⟨nI_pos (by omega), nI_lt h (by decide)⟩
def knI (S : St) (k : Int32) : Bool := bnF k && thS S (kN k)
def thereX (S : St) (k : Int32) : Option String := if knI S k = true then none else some xI
theorem there_n {S : St} {k : Int32} (h : thereX S k = none) : ∃ j, j < 512 ∧ k = nI j ∧ thS S j = true := by
  unfold thereX at h
  split at h
  · next q =>
    unfold knI at q
    simp only [Bool.and_eq_true] at q
    obtain ⟨j, hj, rfl⟩ := bn_nat q.1
    refine ⟨j, hj, rfl, ?_⟩
    have := q.2
    rw [kN_nI (by omega)] at this
    exact this
  · cases h
def goodX (x y z : UInt32) : Option String := if (wiF x (nI 16384) && (wiF y (nI 16384) && wiF z (nI 16384))) = true then none else some xA
def movX (x y z : UInt32) : Option String := if mvB x y z = true then none else some xA
def padX (S : St) : Option String := if bxF (bxS S 0) = true then none else some xA
def roomX (S : St) (n : Int32) : Option String := if nI 512 - nfS S 0 < n then some xS else none
def foundX (S : St) (k : Int32) : Option String := if k < 0 then some xI else if k < nfS S 2 then none else some xI
def pcode (a b : Nat) : Nat := if a < b then a * 512 + b else b * 512 + a
theorem pcode_lt {a b : Nat} (ha : a < 512) (hb : b < 512) : pcode a b < 262144 := by unfold pcode; split <;> omega
def apB (S : St) (a b : Nat) : Bool := !(decide (a = b)) && hdS S (ipS S).1 (pcode a b)
def ctB (p : Nat → Bool) : Nat → Nat
  | 0 => 0
  | n + 1 => ctB p n + (if p n = true then 1 else 0)
theorem ctB_le (p : Nat → Bool) : ∀ n, ctB p n ≤ n
  | 0 => Nat.le_refl 0
  | n + 1 => by have := ctB_le p n; unfold ctB; split <;> omega
def fnS (S : St) (c b : Nat) (x : UInt32) : St := nfU (ffU (fbU S (va_up (fbS S) c (nI b))) (va_up (ffS S) c x)) (va_up (nfS S) 2 (nI (c + 1)))
def mvS (S : St) (j : Nat) (dx dy dz : UInt32) : St := boxU S j (mvF (bxS S j) dx dy dz)
theorem cp_gb {f g : Nat → UInt32} (h : Gb f) : Gb (va_cpy f g 0 0 6) := by
  intro k hk
  rw [pk_cpy_in (by omega) (by omega)]
  simpa using h k hk
theorem mt_ok {S : St} {k a : Nat} {dx dy dz : UInt32} (h : Gb (bxS S a)) (h2 : a ≠ 2 * k + 2) (hm : mvB dx dy dz = true) : wdN (bxS (cpF6 (cpF6 S (2 * k + 2) a) (2 * k + 3) a) (2 * k + 3)) dx dy dz := by
  obtain ⟨m1, m2, m3⟩ := mvB_at hm
  refine wd_ok ?_ m1 m2 m3
  unfold cpF6
  rw [bx_s]
  refine cp_gb ?_
  rw [bx_ne _ _ h2]
  exact h
theorem ap_ok {S : St} {k a : Nat} (h : Gb (bxS S a)) (h2 : a ≠ 2 * k + 2) : wdN (bxS (cpF6 (cpF6 (thU S (va_up (thS S) k true)) (2 * k + 2) a) (2 * k + 3) a) (2 * k + 3)) FP.fconst0 FP.fconst0 FP.fconst0 := by
  refine wd_ok ?_ mg_0 mg_0 mg_0
  unfold cpF6
  rw [bx_s]
  refine cp_gb ?_
  rw [bx_ne _ _ h2]
  exact h
set_option maxRecDepth 100000 in
set_option maxHeartbeats 1000000 in
theorem c_isBodyNumber (l : Launch) (G : Gm) (S : St) (k : Int32) : Pi l yX3_isBodyNumber wsX3_isBodyNumber ({ frames := 0, cells := 0, slots := 0, locals := 0 } : Room) [.int k] G S (bI (bnF k)) S := by
  refine ent (cc := cX3_isBodyNumber) (maxL := 1) (ret := (some .boolean)) (by decide) rfl (Nat.le_of_ble_eq_true rfl) ?_
  intro p e s m below meth c ls C hw hT hS hl
  obtain ⟨hx, hb, hr, hml, hown, hts, hlk⟩ := C
  have hl : lv_has ls 1 [(0, .int k)] := hl
  refine lv_iload_n hx hb dX3_isBodyNumber_0 rfl (lv_at hl 0 rfl) ?_
  refine lv_if_lt (tgt := 15) hx hb dX3_isBodyNumber_1 (by decide) (fun h1 => ?_) (fun h1 => ?_)
  · skip
    refine lv_iconst (v := nI 0) hx hb dX3_isBodyNumber_15 (by decide) ?_
    refine top_i (y := bI false) (by decide) ?_
    exact ri hx hb hlk hr hw hS (congrArg bI (by simp [bnF, h1])) (bI_nar _) (Nat.le_of_ble_eq_true rfl) (Nat.le_of_ble_eq_true rfl) dX3_isBodyNumber_16
  · skip
    refine lv_iload_n hx hb dX3_isBodyNumber_4 rfl (lv_at hl 0 rfl) ?_
    refine lv_sipush (v := nI 512) hx hb dX3_isBodyNumber_5 (by decide) ?_
    refine lv_icmp_ge (tgt := 15) hx hb dX3_isBodyNumber_8 (by decide) (fun h2 => ?_) (fun h2 => ?_)
    · skip
      have h2 : ¬ k < (nI 512) := Int32.not_lt.mpr h2
      refine lv_iconst (v := nI 0) hx hb dX3_isBodyNumber_15 (by decide) ?_
      refine top_i (y := bI false) (by decide) ?_
      exact ri hx hb hlk hr hw hS (congrArg bI (by simp [bnF, h1, h2])) (bI_nar _) (Nat.le_of_ble_eq_true rfl) (Nat.le_of_ble_eq_true rfl) dX3_isBodyNumber_16
    · skip
      have h2 : k < (nI 512) := Int32.not_le.mp h2
      refine lv_iconst (v := nI 1) hx hb dX3_isBodyNumber_11 (by decide) ?_
      refine lv_goto (tgt := 16) hx hb dX3_isBodyNumber_12 (by decide) ?_
      refine top_i (y := bI true) (by decide) ?_
      exact ri hx hb hlk hr hw hS (congrArg bI (by simp [bnF, h1, h2])) (bI_nar _) (Nat.le_of_ble_eq_true rfl) (Nat.le_of_ble_eq_true rfl) dX3_isBodyNumber_16
set_option maxRecDepth 100000 in
set_option maxHeartbeats 1000000 in
theorem c_pairCode (l : Launch) (G : Gm) (S : St) (a : Nat) (ha : a < 512) (b : Nat) (hb5 : b < 512) : Pi l yX3_pairCode wsX3_pairCode ({ frames := 0, cells := 0, slots := 0, locals := 0 } : Room) [.int (nI a), .int (nI b)] G S (nI (pcode a b)) S := by
  refine ent (cc := cX3_pairCode) (maxL := 2) (ret := (some .int)) (by decide) rfl (Nat.le_of_ble_eq_true rfl) ?_
  intro p e s m below meth c ls C hw hT hS hl
  obtain ⟨hx, hb, hr, hml, hown, hts, hlk⟩ := C
  have hl : lv_has ls 2 [(0, .int (nI a)), (1, .int (nI b))] := hl
  refine lv_iload_n hx hb dX3_pairCode_0 rfl (lv_at hl 0 rfl) ?_
  refine lv_iload_n hx hb dX3_pairCode_1 rfl (lv_at hl 1 rfl) ?_
  refine lv_icmp_ge (tgt := 15) hx hb dX3_pairCode_2 (by decide) (fun h1 => ?_) (fun h1 => ?_)
  · skip
    have h1 : b ≤ a := (nI_leI (by omega) (by omega)).mp h1
    refine lv_iload_n hx hb dX3_pairCode_15 rfl (lv_at hl 1 rfl) ?_
    refine lv_sipush (v := nI 512) hx hb dX3_pairCode_16 (by decide) ?_
    refine lv_imul hx hb dX3_pairCode_19 ?_
    refine top_i (y := nI (b * 512)) (pk_mul b 512) ?_
    refine lv_iload_n hx hb dX3_pairCode_20 rfl (lv_at hl 0 rfl) ?_
    refine lv_iadd hx hb dX3_pairCode_21 ?_
    refine top_i (y := nI (b * 512 + a)) (nI_add (b * 512) a) ?_
    exact ri hx hb hlk hr hw hS (by rw [show pcode a b = b * 512 + a from by unfold pcode; rw [if_neg (by omega)]]) (vp_nar_int _) (Nat.le_of_ble_eq_true rfl) (Nat.le_of_ble_eq_true rfl) dX3_pairCode_22
  · skip
    have h1 : ¬ b ≤ a := fun z => h1 ((nI_leI (by omega) (by omega)).mpr z)
    refine lv_iload_n hx hb dX3_pairCode_5 rfl (lv_at hl 0 rfl) ?_
    refine lv_sipush (v := nI 512) hx hb dX3_pairCode_6 (by decide) ?_
    refine lv_imul hx hb dX3_pairCode_9 ?_
    refine top_i (y := nI (a * 512)) (pk_mul a 512) ?_
    refine lv_iload_n hx hb dX3_pairCode_10 rfl (lv_at hl 1 rfl) ?_
    refine lv_iadd hx hb dX3_pairCode_11 ?_
    refine top_i (y := nI (a * 512 + b)) (nI_add (a * 512) b) ?_
    refine lv_goto (tgt := 22) hx hb dX3_pairCode_12 (by decide) ?_
    exact ri hx hb hlk hr hw hS (by rw [show pcode a b = a * 512 + b from by unfold pcode; rw [if_pos (by omega)]]) (vp_nar_int _) (Nat.le_of_ble_eq_true rfl) (Nat.le_of_ble_eq_true rfl) dX3_pairCode_22
set_option maxRecDepth 100000 in
set_option maxHeartbeats 1000000 in
theorem c_requireGood (l : Launch) (G : Gm) (S : St) (hl0 : l.stackTraces = false) (x y z : UInt32) : Tv l yX3_requireGood wsX3_requireGood ({ frames := 6, cells := 1, slots := 6, locals := 82 } : Room) [.float x, .float y, .float z] G S (goodX x y z) S S := by
  refine entX (cc := cX3_requireGood) (maxL := 3) (ret := none) (by decide) rfl (Nat.le_of_ble_eq_true rfl) ?_
  intro p e s m below meth c ls C hw hT hS hte hl
  obtain ⟨hx, hb, hr, hml, hown, hts, hlk⟩ := C
  have hz1 := hw.2.2.2.2.1
  have hz2 := hw.2.2.2.2.2
  have hl : lv_has ls 3 [(0, .float x), (1, .float y), (2, .float z)] := hl
  refine lv_fload_n hx hb dX3_requireGood_0 rfl (lv_at hl 0 rfl) ?_
  refine lv_sipush (v := nI 16384) hx hb dX3_requireGood_1 (by decide) ?_
  refine cSi ⟨hx, hb, hml, hown, hts⟩ (c_isWithin l G S x (nI 16384)) (va_cwS 2 hts gX3_requireGood_X3_isWithin rfl rfl rfl (by decide +kernel) ⟨(Nat.le_of_ble_eq_true rfl), (Nat.le_of_ble_eq_true rfl)⟩) hw hT hS (As := [.float x, .int (nI 16384)]) (rest := []) rfl hl.1 rfl (Nat.le_of_ble_eq_true rfl) dX3_requireGood_4 ⟨(Nat.le_of_ble_eq_true rfl), (Nat.le_of_ble_eq_true rfl)⟩ (fun H locs hw hS => ?_)
  refine lv_if_eq (tgt := 30) hx hb dX3_requireGood_7 (by decide) (fun h1 => ?_) (fun h1 => ?_)
  · skip
    have h1 := bI_0.mp h1
    exact thrA hx hb hl0 hown hts hlk hml hl.1 hw hT hS hte (by simp [goodX, h1]) (List.mem_of_getElem? (i := 1) rfl) (List.mem_of_getElem? (i := 2) rfl) (fun _ h => List.mem_cons_of_mem _ (List.mem_append_right _ h)) (List.mem_of_getElem? (i := 6) rfl) hS.1 dX3_requireGood_30 dX3_requireGood_33 dX3_requireGood_34 dX3_requireGood_36 dX3_requireGood_39 (Nat.le_of_ble_eq_true rfl) (Nat.le_of_ble_eq_true rfl) (Nat.le_of_ble_eq_true rfl) (Nat.le_of_ble_eq_true rfl) (Nat.le_of_ble_eq_true rfl) (Nat.le_of_ble_eq_true rfl) hz1 hz2
  · skip
    have h1 := bI_n0.mp h1
    refine lv_fload_n hx hb dX3_requireGood_10 rfl (lv_at hl 1 rfl) ?_
    refine lv_sipush (v := nI 16384) hx hb dX3_requireGood_11 (by decide) ?_
    refine cSi ⟨hx, hb, hml, hown, hts⟩ (c_isWithin l G S y (nI 16384)) (va_cwS 2 hts gX3_requireGood_X3_isWithin rfl rfl rfl (by decide +kernel) ⟨(Nat.le_of_ble_eq_true rfl), (Nat.le_of_ble_eq_true rfl)⟩) hw hT hS (As := [.float y, .int (nI 16384)]) (rest := []) rfl hl.1 rfl (Nat.le_of_ble_eq_true rfl) dX3_requireGood_14 ⟨(Nat.le_of_ble_eq_true rfl), (Nat.le_of_ble_eq_true rfl)⟩ (fun H locs hw hS => ?_)
    refine lv_if_eq (tgt := 30) hx hb dX3_requireGood_17 (by decide) (fun h2 => ?_) (fun h2 => ?_)
    · skip
      have h2 := bI_0.mp h2
      exact thrA hx hb hl0 hown hts hlk hml hl.1 hw hT hS hte (by simp [goodX, h1, h2]) (List.mem_of_getElem? (i := 1) rfl) (List.mem_of_getElem? (i := 2) rfl) (fun _ h => List.mem_cons_of_mem _ (List.mem_append_right _ h)) (List.mem_of_getElem? (i := 6) rfl) hS.1 dX3_requireGood_30 dX3_requireGood_33 dX3_requireGood_34 dX3_requireGood_36 dX3_requireGood_39 (Nat.le_of_ble_eq_true rfl) (Nat.le_of_ble_eq_true rfl) (Nat.le_of_ble_eq_true rfl) (Nat.le_of_ble_eq_true rfl) (Nat.le_of_ble_eq_true rfl) (Nat.le_of_ble_eq_true rfl) hz1 hz2
    · skip
      have h2 := bI_n0.mp h2
      refine lv_fload_n hx hb dX3_requireGood_20 rfl (lv_at hl 2 rfl) ?_
      refine lv_sipush (v := nI 16384) hx hb dX3_requireGood_21 (by decide) ?_
      refine cSi ⟨hx, hb, hml, hown, hts⟩ (c_isWithin l G S z (nI 16384)) (va_cwS 2 hts gX3_requireGood_X3_isWithin rfl rfl rfl (by decide +kernel) ⟨(Nat.le_of_ble_eq_true rfl), (Nat.le_of_ble_eq_true rfl)⟩) hw hT hS (As := [.float z, .int (nI 16384)]) (rest := []) rfl hl.1 rfl (Nat.le_of_ble_eq_true rfl) dX3_requireGood_24 ⟨(Nat.le_of_ble_eq_true rfl), (Nat.le_of_ble_eq_true rfl)⟩ (fun H locs hw hS => ?_)
      refine lv_if_ne (tgt := 40) hx hb dX3_requireGood_27 (by decide) (fun h3 => ?_) (fun h3 => ?_)
      · skip
        have h3 := bI_n0.mp h3
        exact rvx hx hb hlk hr hw hS (by simp [goodX, h1, h2, h3]) (Nat.le_of_ble_eq_true rfl) (Nat.le_of_ble_eq_true rfl) dX3_requireGood_40
      · skip
        have h3 := bI_0.mp h3
        exact thrA hx hb hl0 hown hts hlk hml hl.1 hw hT hS hte (by simp [goodX, h1, h2, h3]) (List.mem_of_getElem? (i := 1) rfl) (List.mem_of_getElem? (i := 2) rfl) (fun _ h => List.mem_cons_of_mem _ (List.mem_append_right _ h)) (List.mem_of_getElem? (i := 6) rfl) hS.1 dX3_requireGood_30 dX3_requireGood_33 dX3_requireGood_34 dX3_requireGood_36 dX3_requireGood_39 (Nat.le_of_ble_eq_true rfl) (Nat.le_of_ble_eq_true rfl) (Nat.le_of_ble_eq_true rfl) (Nat.le_of_ble_eq_true rfl) (Nat.le_of_ble_eq_true rfl) (Nat.le_of_ble_eq_true rfl) hz1 hz2
set_option maxRecDepth 100000 in
set_option maxHeartbeats 1000000 in
theorem c_requireMovement (l : Launch) (G : Gm) (S : St) (hl0 : l.stackTraces = false) (x y z : UInt32) : Tv l yX3_requireMovement wsX3_requireMovement ({ frames := 6, cells := 1, slots := 6, locals := 82 } : Room) [.float x, .float y, .float z] G S (movX x y z) S S := by
  refine entX (cc := cX3_requireMovement) (maxL := 3) (ret := none) (by decide) rfl (Nat.le_of_ble_eq_true rfl) ?_
  intro p e s m below meth c ls C hw hT hS hte hl
  obtain ⟨hx, hb, hr, hml, hown, hts, hlk⟩ := C
  have hz1 := hw.2.2.2.2.1
  have hz2 := hw.2.2.2.2.2
  have hl : lv_has ls 3 [(0, .float x), (1, .float y), (2, .float z)] := hl
  refine lv_fload_n hx hb dX3_requireMovement_0 rfl (lv_at hl 0 rfl) ?_
  refine lv_sipush (v := nI 256) hx hb dX3_requireMovement_1 (by decide) ?_
  refine cSi ⟨hx, hb, hml, hown, hts⟩ (c_isWithin l G S x (nI 256)) (va_cwS 2 hts gX3_requireMovement_X3_isWithin rfl rfl rfl (by decide +kernel) ⟨(Nat.le_of_ble_eq_true rfl), (Nat.le_of_ble_eq_true rfl)⟩) hw hT hS (As := [.float x, .int (nI 256)]) (rest := []) rfl hl.1 rfl (Nat.le_of_ble_eq_true rfl) dX3_requireMovement_4 ⟨(Nat.le_of_ble_eq_true rfl), (Nat.le_of_ble_eq_true rfl)⟩ (fun H locs hw hS => ?_)
  refine lv_if_eq (tgt := 30) hx hb dX3_requireMovement_7 (by decide) (fun h1 => ?_) (fun h1 => ?_)
  · skip
    have h1 := bI_0.mp h1
    exact thrA hx hb hl0 hown hts hlk hml hl.1 hw hT hS hte (by simp [movX, mvB, h1]) (List.mem_of_getElem? (i := 1) rfl) (List.mem_of_getElem? (i := 2) rfl) (fun _ h => List.mem_cons_of_mem _ (List.mem_append_right _ h)) (List.mem_of_getElem? (i := 7) rfl) hS.1 dX3_requireMovement_30 dX3_requireMovement_33 dX3_requireMovement_34 dX3_requireMovement_36 dX3_requireMovement_39 (Nat.le_of_ble_eq_true rfl) (Nat.le_of_ble_eq_true rfl) (Nat.le_of_ble_eq_true rfl) (Nat.le_of_ble_eq_true rfl) (Nat.le_of_ble_eq_true rfl) (Nat.le_of_ble_eq_true rfl) hz1 hz2
  · skip
    have h1 := bI_n0.mp h1
    refine lv_fload_n hx hb dX3_requireMovement_10 rfl (lv_at hl 1 rfl) ?_
    refine lv_sipush (v := nI 256) hx hb dX3_requireMovement_11 (by decide) ?_
    refine cSi ⟨hx, hb, hml, hown, hts⟩ (c_isWithin l G S y (nI 256)) (va_cwS 2 hts gX3_requireMovement_X3_isWithin rfl rfl rfl (by decide +kernel) ⟨(Nat.le_of_ble_eq_true rfl), (Nat.le_of_ble_eq_true rfl)⟩) hw hT hS (As := [.float y, .int (nI 256)]) (rest := []) rfl hl.1 rfl (Nat.le_of_ble_eq_true rfl) dX3_requireMovement_14 ⟨(Nat.le_of_ble_eq_true rfl), (Nat.le_of_ble_eq_true rfl)⟩ (fun H locs hw hS => ?_)
    refine lv_if_eq (tgt := 30) hx hb dX3_requireMovement_17 (by decide) (fun h2 => ?_) (fun h2 => ?_)
    · skip
      have h2 := bI_0.mp h2
      exact thrA hx hb hl0 hown hts hlk hml hl.1 hw hT hS hte (by simp [movX, mvB, h1, h2]) (List.mem_of_getElem? (i := 1) rfl) (List.mem_of_getElem? (i := 2) rfl) (fun _ h => List.mem_cons_of_mem _ (List.mem_append_right _ h)) (List.mem_of_getElem? (i := 7) rfl) hS.1 dX3_requireMovement_30 dX3_requireMovement_33 dX3_requireMovement_34 dX3_requireMovement_36 dX3_requireMovement_39 (Nat.le_of_ble_eq_true rfl) (Nat.le_of_ble_eq_true rfl) (Nat.le_of_ble_eq_true rfl) (Nat.le_of_ble_eq_true rfl) (Nat.le_of_ble_eq_true rfl) (Nat.le_of_ble_eq_true rfl) hz1 hz2
    · skip
      have h2 := bI_n0.mp h2
      refine lv_fload_n hx hb dX3_requireMovement_20 rfl (lv_at hl 2 rfl) ?_
      refine lv_sipush (v := nI 256) hx hb dX3_requireMovement_21 (by decide) ?_
      refine cSi ⟨hx, hb, hml, hown, hts⟩ (c_isWithin l G S z (nI 256)) (va_cwS 2 hts gX3_requireMovement_X3_isWithin rfl rfl rfl (by decide +kernel) ⟨(Nat.le_of_ble_eq_true rfl), (Nat.le_of_ble_eq_true rfl)⟩) hw hT hS (As := [.float z, .int (nI 256)]) (rest := []) rfl hl.1 rfl (Nat.le_of_ble_eq_true rfl) dX3_requireMovement_24 ⟨(Nat.le_of_ble_eq_true rfl), (Nat.le_of_ble_eq_true rfl)⟩ (fun H locs hw hS => ?_)
      refine lv_if_ne (tgt := 40) hx hb dX3_requireMovement_27 (by decide) (fun h3 => ?_) (fun h3 => ?_)
      · skip
        have h3 := bI_n0.mp h3
        exact rvx hx hb hlk hr hw hS (by simp [movX, mvB, h1, h2, h3]) (Nat.le_of_ble_eq_true rfl) (Nat.le_of_ble_eq_true rfl) dX3_requireMovement_40
      · skip
        have h3 := bI_0.mp h3
        exact thrA hx hb hl0 hown hts hlk hml hl.1 hw hT hS hte (by simp [movX, mvB, h1, h2, h3]) (List.mem_of_getElem? (i := 1) rfl) (List.mem_of_getElem? (i := 2) rfl) (fun _ h => List.mem_cons_of_mem _ (List.mem_append_right _ h)) (List.mem_of_getElem? (i := 7) rfl) hS.1 dX3_requireMovement_30 dX3_requireMovement_33 dX3_requireMovement_34 dX3_requireMovement_36 dX3_requireMovement_39 (Nat.le_of_ble_eq_true rfl) (Nat.le_of_ble_eq_true rfl) (Nat.le_of_ble_eq_true rfl) (Nat.le_of_ble_eq_true rfl) (Nat.le_of_ble_eq_true rfl) (Nat.le_of_ble_eq_true rfl) hz1 hz2
set_option maxRecDepth 100000 in
set_option maxHeartbeats 1000000 in
theorem c_requirePadIsBox (l : Launch) (G : Gm) (S : St) (hl0 : l.stackTraces = false)  : Tv l yX3_requirePadIsBox wsX3_requirePadIsBox ({ frames := 6, cells := 1, slots := 6, locals := 82 } : Room) [.ref (g_ad G 0 0)] G S (padX S) S S := by
  refine entX (cc := cX3_requirePadIsBox) (maxL := 1) (ret := none) (by decide) rfl (Nat.le_of_ble_eq_true rfl) ?_
  intro p e s m below meth c ls C hw hT hS hte hl
  obtain ⟨hx, hb, hr, hml, hown, hts, hlk⟩ := C
  have hz1 := hw.2.2.2.2.1
  have hz2 := hw.2.2.2.2.2
  have hl : lv_has ls 1 [(0, .ref (g_ad G 0 0))] := hl
  refine lv_aload_n hx hb dX3_requirePadIsBox_0 rfl (lv_at hl 0 rfl) ?_
  refine gf hx hb hown hts hw hT 0 0 (by decide) (ci := 3) rfl rfl (fun _ h => List.mem_cons_of_mem _ (List.mem_append_left _ (List.mem_append_left _ (List.mem_append_right _ h)))) 0 (by decide) (List.mem_of_getElem? (i := 3) rfl) (v := .ref (g_ad G 1 0)) rfl dX3_requirePadIsBox_1 ?_
  refine cVi ⟨hx, hb, hml, hown, hts⟩ (c_isBox l G S 0 (by decide)) (cwV 0 hts gX3_requirePadIsBox_X1_isBox rfl rfl rfl (by decide +kernel) ⟨(Nat.le_of_ble_eq_true rfl), (Nat.le_of_ble_eq_true rfl)⟩) hw hT hS (rcv hw hT 1 0 (by decide) rfl rfl) (As := []) (rest := []) rfl hl.1 rfl (Nat.le_of_ble_eq_true rfl) dX3_requirePadIsBox_4 ⟨(Nat.le_of_ble_eq_true rfl), (Nat.le_of_ble_eq_true rfl)⟩ (fun H locs hw hS => ?_)
  refine lv_if_ne (tgt := 20) hx hb dX3_requirePadIsBox_7 (by decide) (fun h1 => ?_) (fun h1 => ?_)
  · skip
    have h1 := bI_n0.mp h1
    exact rvx hx hb hlk hr hw hS (by simp [padX, h1]) (Nat.le_of_ble_eq_true rfl) (Nat.le_of_ble_eq_true rfl) dX3_requirePadIsBox_20
  · skip
    have h1 := bI_0.mp h1
    exact thrA hx hb hl0 hown hts hlk hml hl.1 hw hT hS hte (by simp [padX, h1]) (List.mem_of_getElem? (i := 1) rfl) (List.mem_of_getElem? (i := 2) rfl) (fun _ h => List.mem_cons_of_mem _ (List.mem_append_right _ h)) (List.mem_of_getElem? (i := 8) rfl) hS.1 dX3_requirePadIsBox_10 dX3_requirePadIsBox_13 dX3_requirePadIsBox_14 dX3_requirePadIsBox_16 dX3_requirePadIsBox_19 (Nat.le_of_ble_eq_true rfl) (Nat.le_of_ble_eq_true rfl) (Nat.le_of_ble_eq_true rfl) (Nat.le_of_ble_eq_true rfl) (Nat.le_of_ble_eq_true rfl) (Nat.le_of_ble_eq_true rfl) hz1 hz2
set_option maxRecDepth 100000 in
set_option maxHeartbeats 1000000 in
theorem c_requireRoomFor (l : Launch) (G : Gm) (S : St) (hl0 : l.stackTraces = false) (n : Int32) : Tv l yX3_requireRoomFor wsX3_requireRoomFor ({ frames := 6, cells := 1, slots := 6, locals := 82 } : Room) [.ref (g_ad G 0 0), .int n] G S (roomX S n) S S := by
  refine entX (cc := cX3_requireRoomFor) (maxL := 2) (ret := none) (by decide) rfl (Nat.le_of_ble_eq_true rfl) ?_
  intro p e s m below meth c ls C hw hT hS hte hl
  obtain ⟨hx, hb, hr, hml, hown, hts, hlk⟩ := C
  have hz1 := hw.2.2.2.2.1
  have hz2 := hw.2.2.2.2.2
  have hl : lv_has ls 2 [(0, .ref (g_ad G 0 0)), (1, .int n)] := hl
  refine lv_sipush (v := nI 512) hx hb dX3_requireRoomFor_0 (by decide) ?_
  refine lv_aload_n hx hb dX3_requireRoomFor_3 rfl (lv_at hl 0 rfl) ?_
  refine gf hx hb hown hts hw hT 0 0 (by decide) (ci := 3) rfl rfl (fun _ h => List.mem_cons_of_mem _ (List.mem_append_left _ (List.mem_append_right _ h))) 2 (by decide) (List.mem_of_getElem? (i := 3) rfl) (v := .int (nfS S 0)) rfl dX3_requireRoomFor_4 ?_
  refine lv_isub hx hb dX3_requireRoomFor_7 ?_
  refine lv_iload_n hx hb dX3_requireRoomFor_8 rfl (lv_at hl 1 rfl) ?_
  refine lv_icmp_ge (tgt := 22) hx hb dX3_requireRoomFor_9 (by decide) (fun h1 => ?_) (fun h1 => ?_)
  · skip
    have h1 : ¬ ((nI 512) - (nfS S 0)) < n := Int32.not_lt.mpr h1
    exact rvx hx hb hlk hr hw hS (by simp [roomX, h1]) (Nat.le_of_ble_eq_true rfl) (Nat.le_of_ble_eq_true rfl) dX3_requireRoomFor_22
  · skip
    have h1 : ((nI 512) - (nfS S 0)) < n := Int32.not_le.mp h1
    exact thrS hx hb hl0 hown hts hlk hml hl.1 hw hT hS hte (by simp [roomX, h1]) (List.mem_of_getElem? (i := 1) rfl) (List.mem_of_getElem? (i := 2) rfl) (fun _ h => List.mem_cons_of_mem _ (List.mem_append_right _ h)) (List.mem_of_getElem? (i := 9) rfl) hS.1 dX3_requireRoomFor_12 dX3_requireRoomFor_15 dX3_requireRoomFor_16 dX3_requireRoomFor_18 dX3_requireRoomFor_21 (Nat.le_of_ble_eq_true rfl) (Nat.le_of_ble_eq_true rfl) (Nat.le_of_ble_eq_true rfl) (Nat.le_of_ble_eq_true rfl) (Nat.le_of_ble_eq_true rfl) (Nat.le_of_ble_eq_true rfl) hz1 hz2
set_option maxRecDepth 100000 in
set_option maxHeartbeats 1000000 in
theorem c_requireThere (l : Launch) (G : Gm) (S : St) (hl0 : l.stackTraces = false) (k : Int32) : Tv l yX3_requireThere wsX3_requireThere ({ frames := 6, cells := 1, slots := 6, locals := 82 } : Room) [.ref (g_ad G 0 0), .int k] G S (thereX S k) S S := by
  refine entX (cc := cX3_requireThere) (maxL := 2) (ret := none) (by decide) rfl (Nat.le_of_ble_eq_true rfl) ?_
  intro p e s m below meth c ls C hw hT hS hte hl
  obtain ⟨hx, hb, hr, hml, hown, hts, hlk⟩ := C
  have hz1 := hw.2.2.2.2.1
  have hz2 := hw.2.2.2.2.2
  have hl : lv_has ls 2 [(0, .ref (g_ad G 0 0)), (1, .int k)] := hl
  refine lv_iload_n hx hb dX3_requireThere_0 rfl (lv_at hl 1 rfl) ?_
  refine cSi ⟨hx, hb, hml, hown, hts⟩ (c_isBodyNumber l G S k) (va_cwS 1 hts gX3_requireThere_X3_isBodyNumber rfl rfl rfl (by decide +kernel) ⟨(Nat.le_of_ble_eq_true rfl), (Nat.le_of_ble_eq_true rfl)⟩) hw hT hS (As := [.int k]) (rest := []) rfl hl.1 rfl (Nat.le_of_ble_eq_true rfl) dX3_requireThere_1 ⟨(Nat.le_of_ble_eq_true rfl), (Nat.le_of_ble_eq_true rfl)⟩ (fun H locs hw hS => ?_)
  refine lv_if_eq (tgt := 19) hx hb dX3_requireThere_4 (by decide) (fun h1 => ?_) (fun h1 => ?_)
  · skip
    have h1 := bI_0.mp h1
    exact thrI hx hb hl0 hown hts hlk hml hl.1 hw hT hS hte (by simp [thereX, knI, h1]) (List.mem_of_getElem? (i := 1) rfl) (List.mem_of_getElem? (i := 2) rfl) (fun _ h => List.mem_cons_of_mem _ (List.mem_append_right _ h)) (List.mem_of_getElem? (i := 10) rfl) hS.1 dX3_requireThere_19 dX3_requireThere_22 dX3_requireThere_23 dX3_requireThere_25 dX3_requireThere_28 (Nat.le_of_ble_eq_true rfl) (Nat.le_of_ble_eq_true rfl) (Nat.le_of_ble_eq_true rfl) (Nat.le_of_ble_eq_true rfl) (Nat.le_of_ble_eq_true rfl) (Nat.le_of_ble_eq_true rfl) hz1 hz2
  · skip
    have h1 := bI_n0.mp h1
    obtain ⟨j, hj, rfl⟩ := bn_nat h1
    refine lv_aload_n hx hb dX3_requireThere_7 rfl (lv_at hl 0 rfl) ?_
    refine gf hx hb hown hts hw hT 0 0 (by decide) (ci := 3) rfl rfl (fun _ h => List.mem_cons_of_mem _ (List.mem_append_left _ (List.mem_append_left _ (List.mem_append_right _ h)))) 1 (by decide) (List.mem_of_getElem? (i := 3) rfl) (v := .ref (g_ad G 3 0)) rfl dX3_requireThere_8 ?_
    refine lv_iload_n hx hb dX3_requireThere_11 rfl (lv_at hl 1 rfl) ?_
    refine abl hx hb hw hT j (show j < 512 by omega) dX3_requireThere_12 ?_
    refine gf hx hb hown hts hw hT 4 j (show j < 512 by omega) (ci := 0) rfl rfl (fun _ h => List.mem_cons_of_mem _ (List.mem_append_left _ (List.mem_append_right _ h))) 4 (by decide) (List.mem_of_getElem? (i := 4) rfl) (v := .int (bI (thS S j))) rfl dX3_requireThere_13 ?_
    refine lv_if_ne (tgt := 29) hx hb dX3_requireThere_16 (by decide) (fun h2 => ?_) (fun h2 => ?_)
    · skip
      have h2 := bI_n0.mp h2
      exact rvx hx hb hlk hr hw hS (by simp [thereX, knI, kN_nI (show j < 65536 by omega), h1, h2]) (Nat.le_of_ble_eq_true rfl) (Nat.le_of_ble_eq_true rfl) dX3_requireThere_29
    · skip
      have h2 := bI_0.mp h2
      exact thrI hx hb hl0 hown hts hlk hml hl.1 hw hT hS hte (by simp [thereX, knI, kN_nI (show j < 65536 by omega), h1, h2]) (List.mem_of_getElem? (i := 1) rfl) (List.mem_of_getElem? (i := 2) rfl) (fun _ h => List.mem_cons_of_mem _ (List.mem_append_right _ h)) (List.mem_of_getElem? (i := 10) rfl) hS.1 dX3_requireThere_19 dX3_requireThere_22 dX3_requireThere_23 dX3_requireThere_25 dX3_requireThere_28 (Nat.le_of_ble_eq_true rfl) (Nat.le_of_ble_eq_true rfl) (Nat.le_of_ble_eq_true rfl) (Nat.le_of_ble_eq_true rfl) (Nat.le_of_ble_eq_true rfl) (Nat.le_of_ble_eq_true rfl) hz1 hz2
set_option maxRecDepth 100000 in
set_option maxHeartbeats 1000000 in
theorem c_requireFound (l : Launch) (G : Gm) (S : St) (hl0 : l.stackTraces = false) (k : Int32) : Tv l yX3_requireFound wsX3_requireFound ({ frames := 6, cells := 1, slots := 6, locals := 82 } : Room) [.ref (g_ad G 0 0), .int k] G S (foundX S k) S S := by
  refine entX (cc := cX3_requireFound) (maxL := 2) (ret := none) (by decide) rfl (Nat.le_of_ble_eq_true rfl) ?_
  intro p e s m below meth c ls C hw hT hS hte hl
  obtain ⟨hx, hb, hr, hml, hown, hts, hlk⟩ := C
  have hz1 := hw.2.2.2.2.1
  have hz2 := hw.2.2.2.2.2
  have hl : lv_has ls 2 [(0, .ref (g_ad G 0 0)), (1, .int k)] := hl
  refine lv_iload_n hx hb dX3_requireFound_0 rfl (lv_at hl 1 rfl) ?_
  refine lv_if_lt (tgt := 12) hx hb dX3_requireFound_1 (by decide) (fun h1 => ?_) (fun h1 => ?_)
  · skip
    exact thrI hx hb hl0 hown hts hlk hml hl.1 hw hT hS hte (by simp [foundX, h1]) (List.mem_of_getElem? (i := 1) rfl) (List.mem_of_getElem? (i := 2) rfl) (fun _ h => List.mem_cons_of_mem _ (List.mem_append_right _ h)) (List.mem_of_getElem? (i := 11) rfl) hS.1 dX3_requireFound_12 dX3_requireFound_15 dX3_requireFound_16 dX3_requireFound_18 dX3_requireFound_21 (Nat.le_of_ble_eq_true rfl) (Nat.le_of_ble_eq_true rfl) (Nat.le_of_ble_eq_true rfl) (Nat.le_of_ble_eq_true rfl) (Nat.le_of_ble_eq_true rfl) (Nat.le_of_ble_eq_true rfl) hz1 hz2
  · skip
    refine lv_iload_n hx hb dX3_requireFound_4 rfl (lv_at hl 1 rfl) ?_
    refine lv_aload_n hx hb dX3_requireFound_5 rfl (lv_at hl 0 rfl) ?_
    refine gf hx hb hown hts hw hT 0 0 (by decide) (ci := 3) rfl rfl (fun _ h => List.mem_cons_of_mem _ (List.mem_append_left _ (List.mem_append_right _ h))) 10 (by decide) (List.mem_of_getElem? (i := 3) rfl) (v := .int (nfS S 2)) rfl dX3_requireFound_6 ?_
    refine lv_icmp_lt (tgt := 22) hx hb dX3_requireFound_9 (by decide) (fun h2 => ?_) (fun h2 => ?_)
    · skip
      exact rvx hx hb hlk hr hw hS (by simp [foundX, h1, h2]) (Nat.le_of_ble_eq_true rfl) (Nat.le_of_ble_eq_true rfl) dX3_requireFound_22
    · skip
      exact thrI hx hb hl0 hown hts hlk hml hl.1 hw hT hS hte (by simp [foundX, h1, h2]) (List.mem_of_getElem? (i := 1) rfl) (List.mem_of_getElem? (i := 2) rfl) (fun _ h => List.mem_cons_of_mem _ (List.mem_append_right _ h)) (List.mem_of_getElem? (i := 11) rfl) hS.1 dX3_requireFound_12 dX3_requireFound_15 dX3_requireFound_16 dX3_requireFound_18 dX3_requireFound_21 (Nat.le_of_ble_eq_true rfl) (Nat.le_of_ble_eq_true rfl) (Nat.le_of_ble_eq_true rfl) (Nat.le_of_ble_eq_true rfl) (Nat.le_of_ble_eq_true rfl) (Nat.le_of_ble_eq_true rfl) hz1 hz2
