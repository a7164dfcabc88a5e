/-! The model: the middle methods -/
def okS (S : St) : St := gsS S true true
theorem gs_ok {S : St} {a b : Bool} (h : (a && b) = true) : gsS S a b = okS S := by
  cases a
  · cases h
  · cases b
    · cases h
    · rfl
theorem kw_nat {S : St} {k : Int32} (h : kwF S k = true) : ∃ j, j < 512 ∧ k = nI j ∧ mZS S 0 j = true := by
  unfold kwF at h
  rw [Bool.and_eq_true] at h
  obtain ⟨j, hj, rfl⟩ := bn_nat h.1
  refine ⟨j, hj, rfl, ?_⟩
  have := h.2
  rwa [kN_nI (by omega)] at this
theorem and_l {a b : Bool} (h : (a && b) = true) : a = true := by cases a <;> simp_all
theorem and_r {a b : Bool} (h : (a && b) = true) : b = true := by cases a <;> simp_all
theorem ls_spec (t : Nat → Bool) : ∀ n b, (∀ j, b ≤ j → j < lsR t n b → t j = true) ∧ b ≤ lsR t n b ∧ lsR t n b ≤ b + n ∧ (lsR t n b < b + n → t (lsR t n b) = false)
  | 0, b => ⟨fun j h1 h2 => absurd h2 (by show ¬ j < b; omega), Nat.le_refl _, Nat.le_refl _, fun h => absurd h (by show ¬ b < b + 0; omega)⟩
  | n + 1, b => by
    rw [lsR]
    by_cases h : t b = true
    · rw [if_pos h]
      obtain ⟨a1, a2, a3, a4⟩ := ls_spec t n (b + 1)
      refine ⟨fun j h1 h2 => ?_, by omega, by omega, fun q => a4 (by omega)⟩
      by_cases q : j = b
      · rw [q]; exact h
      · exact a1 j (by omega) h2
    · rw [if_neg h]
      exact ⟨fun j h1 h2 => absurd h2 (by omega), by omega, by omega, fun _ => by simpa using h⟩
theorem ct_all {t : Nat → Bool} : ∀ {n : Nat}, (∀ j, j < n → t j = true) → ctB t n = n
  | 0, _ => rfl
  | n + 1, h => by
    rw [ctB, ct_all (fun j hj => h j (by omega)), if_pos (h n (by omega))]
theorem ls_lt {t : Nat → Bool} {n : Nat} (h : ctB t n < n) : lsR t n 0 < n := by
  obtain ⟨a1, a2, a3, a4⟩ := ls_spec t n 0
  rcases Nat.lt_or_ge (lsR t n 0) n with q | q
  · exact q
  · have := ct_all (n := n) (t := t) (fun j hj => a1 j (by omega) (by omega))
    omega
def btF (f : Nat → Int32) (a b : Nat) : Bool := decide ((f (16 * a + b / 32) >>> ((nI (b % 32)) &&& 31)) &&& nI 1 = nI 1)
def ipF (S : St) (a b : Nat) : Bool := if a < b then btF (mIS S 2) a b else btF (mIS S 2) b a
def pkF (S : St) (k o : Nat) : Bool := !(decide (o = k)) && ipF S k o
def clS (S : St) (a b : Nat) : St := mIU S (va_up (mIS S) 2 (va_up (mIS S 2) (16 * a + b / 32) ((mIS S 2 (16 * a + b / 32)) &&& ((nI 1 <<< ((nI (b % 32)) &&& 31)) ^^^ (-1)))))
def rmR (k : Nat) : Nat → Nat → St → St
  | 0, _, S => S
  | n + 1, o, S => rmR k n (o + 1) (if o < k then clS S o k else clS S k o)
def leM (S : St) (k : Nat) : St := mZU (mZU S (va_up (mZS S) 0 (va_up (mZS S 0) k false))) (va_up (mZS (mZU S (va_up (mZS S) 0 (va_up (mZS S 0) k false)))) 1 (va_up (mZS S 1) k false))
def rmMS (S : St) (k : Int32) : St := if (kwF S k && true) = true then leM (rmR (kN k) 512 0 (okS S)) (kN k) else gsS S (kwF S k) true
def rmMI (S : St) (k : Int32) : Int32 := if (kwF S k && true) = true then nI (ctB (pkF (okS S) (kN k)) 512) else nI 0
def fiA (S : St) (k : Nat) (g : Int32) : St := mIU S (va_up (mIS S) 0 (va_up (mIS S 0) k g))
def fiB (S : St) (k : Nat) (g m : Int32) : St := mIU (fiA S k g) (va_up (mIS (fiA S k g)) 1 (va_up (mIS S 1) k m))
def fiM (S : St) (k : Nat) (g m : Int32) : St := mZU (fiB S k g m) (va_up (mZS (fiB S k g m)) 1 (va_up (mZS S 1) k true))
def fiMS (S : St) (k : Int32) (g m : Int32) : St := if (kwF S k && true) = true then fiM (okS S) (kN k) g m else gsS S (kwF S k) true
def puZ (S : St) (b : Nat) : St := mZU S (va_up (mZS S) 0 (va_up (mZS S 0) b true))
def puT (S : St) (b : Nat) (g m : Int32) : St := mIU (mIU (puZ S b) (va_up (mIS (puZ S b)) 0 (va_up (mIS S 0) b g))) (va_up (mIS (mIU (puZ S b) (va_up (mIS (puZ S b)) 0 (va_up (mIS S 0) b g)))) 1 (va_up (mIS S 1) b m))
def puS (S : St) (b : Nat) (g m : Int32) : St := seS (puT S b g m) b FP.fconst0 FP.fconst0 FP.fconst0
theorem pu_4 {S : St} {b : Nat} {g m : Int32} : mFS (puT S b g m) 4 = mFS S 4 := rfl
theorem se_n {f : Nat → UInt32} {dx dy dz : UInt32} (h : Gb f) (m1 : Mg 136 dx) (m2 : Mg 136 dy) (m3 : Mg 136 dz) : waN f 0 dx ∧ waN f 1 dy ∧ waN f 2 dz := ⟨wa_ok (h 0 (by decide)) (h 3 (by decide)) m1, wa_ok (h 1 (by decide)) (h 4 (by decide)) m2, wa_ok (h 2 (by decide)) (h 5 (by decide)) m3⟩
theorem six {P : Nat → Prop} (h0 : P 0) (h1 : P 1) (h2 : P 2) (h3 : P 3) (h4 : P 4) (h5 : P 5) : ∀ k, k < 6 → P k := by
  intro k hk
  match k, hk with
  | 0, _ => exact h0
  | 1, _ => exact h1
  | 2, _ => exact h2
  | 3, _ => exact h3
  | 4, _ => exact h4
  | 5, _ => exact h5
  | n + 6, q => omega
theorem tk_at {f g : Nat → UInt32} : ∀ k, k < 6 → tkF f g k = f k := six rfl rfl rfl rfl rfl rfl
theorem tk_gb {S : St} (h : Gb (mFS S 0)) : Gb (mFS (tkS S) 4) := by
  intro k hk
  show Mg 142 (tkF (mFS S 0) (mFS S 4) k)
  rw [tk_at k hk]
  exact h k hk
theorem sl_mv {x y z : UInt32} (h : slF x y z = true) : mvB x y z = true := by
  unfold slF at h
  unfold mvB wiF
  rw [i2f_2, i2f_m2]
  simp only [Bool.and_eq_true] at h ⊢
  exact ⟨⟨h.2.1, h.1⟩, ⟨h.2.2.2.1, h.2.2.1⟩, ⟨h.2.2.2.2.2, h.2.2.2.2.1⟩⟩
theorem go_wi {x : UInt32} : goF x = wiF x (nI 16384) := by
  unfold goF wiF
  rw [i2f_16, i2f_m16, Bool.and_comm]
def adMS (S : St) (g m : Int32) : St := if (pbF (mFS S 0) && decide (ctB (mZS S 0) 512 < 512)) = true then puS (tkS (okS S)) (lsR (mZS S 0) 512 0) g m else gsS S (pbF (mFS S 0)) (decide (ctB (mZS S 0) 512 < 512))
def adMI (S : St) : Int32 := if (pbF (mFS S 0) && decide (ctB (mZS S 0) 512 < 512)) = true then nI (lsR (mZS S 0) 512 0) else nI 0
def moF (f w : Nat → UInt32) (b : Nat) : Bool := ((fGe (f 0) (w (6 * b + 0)) && fLe (f 3) (w (6 * b + 3 + 0))) && (fGe (f 1) (w (6 * b + 1)) && fLe (f 4) (w (6 * b + 3 + 1)))) && (fGe (f 2) (w (6 * b + 2)) && fLe (f 5) (w (6 * b + 3 + 2)))
def moM (S : St) (b : Nat) (dx dy dz : UInt32) : St := if moF (mFS S 4) (mFS S 2) b = true then tgS S b else tgS (seS S b dx dy dz) b
def mvMS (S : St) (k : Int32) (dx dy dz : UInt32) : St := if (kwF S k && (pbF (mFS S 0) && slF dx dy dz)) = true then moM (tkS (okS S)) (kN k) dx dy dz else gsS S (kwF S k) (pbF (mFS S 0) && slF dx dy dz)
def mvMB (S : St) (k : Int32) (dx dy dz : UInt32) : Bool := (kwF S k && (pbF (mFS S 0) && slF dx dy dz)) && !(moF (mFS (tkS (okS S)) 4) (mFS (tkS (okS S)) 2) (kN k))
def thF (S : St) (a b : Nat) : Bool := !((mIS S 0 a &&& mIS S 1 b) == 0) && !((mIS S 0 b &&& mIS S 1 a) == 0)
def ovM (w : Nat → UInt32) (a b : Nat) : Bool := ((fLe (w (6 * a + 0)) (w (6 * b + 3 + 0)) && fLe (w (6 * b + 0)) (w (6 * a + 3 + 0))) && (fLe (w (6 * a + 1)) (w (6 * b + 3 + 1)) && fLe (w (6 * b + 1)) (w (6 * a + 3 + 1)))) && (fLe (w (6 * a + 2)) (w (6 * b + 3 + 2)) && fLe (w (6 * b + 2)) (w (6 * a + 3 + 2)))
set_option maxRecDepth 100000 in
set_option maxHeartbeats 1000000 in
theorem m_bit (l : Launch) (G : Gm) (S : St) (a : Nat) (ha5 : a < 512) (b : Nat) (hb5 : b < 512) : Pi l yX4_bit wsX4_bit ({ frames := 0, cells := 0, slots := 0, locals := 0 } : Room) [.ref (g_ad G 11 2), .int (nI a), .int (nI b)] G S (bI (btF (mIS S 2) a b)) S := by
  refine ent (cc := cX4_bit) (maxL := 3) (ret := (some .boolean)) (by decide) rfl (Nat.le_of_ble_eq_true rfl) ?_
  intro p e s m below meth c ls C hw hT hS hl
  obtain ⟨hx, hb, hr, hml, hown, hts, hlk⟩ := C
  have hl : lv_has ls 3 [(0, .ref (g_ad G 11 2)), (1, .int (nI a)), (2, .int (nI b))] := hl
  refine lv_aload_n hx hb dX4_bit_0 rfl (lv_at hl 0 rfl) ?_
  refine lv_bipush (v := nI 16) hx hb dX4_bit_1 (by decide) ?_
  refine lv_iload_n hx hb dX4_bit_3 rfl (lv_at hl 1 rfl) ?_
  refine lv_imul hx hb dX4_bit_4 ?_
  refine top_i (y := nI (16 * a)) (pk_mul 16 a) ?_
  refine lv_iload_n hx hb dX4_bit_5 rfl (lv_at hl 2 rfl) ?_
  refine lv_bipush (v := nI 32) hx hb dX4_bit_6 (by decide) ?_
  refine lv_idiv hx hb dX4_bit_8 (by decide) ?_
  refine top_i (y := nI (b / 32)) (pk_div (by omega) (by decide) (by decide)) ?_
  refine lv_iadd hx hb dX4_bit_9 ?_
  refine top_i (y := nI (16 * a + (b / 32))) (nI_add (16 * a) (b / 32)) ?_
  refine ail hx hb hw hT 11 2 (by decide) (f := mIS S 2) rfl (16 * a + (b / 32)) (show 16 * a + (b / 32) < 8192 by omega) (by decide) dX4_bit_10 ?_
  refine lv_iload_n hx hb dX4_bit_11 rfl (lv_at hl 2 rfl) ?_
  refine lv_bipush (v := nI 32) hx hb dX4_bit_12 (by decide) ?_
  refine lv_irem hx hb dX4_bit_14 (by decide) ?_
  refine top_i (y := nI (b % 32)) (pk_rem (by omega) (by decide) (by decide)) ?_
  refine lv_ishr hx hb dX4_bit_15 ?_
  refine lv_iconst (v := nI 1) hx hb dX4_bit_16 (by decide) ?_
  refine lv_iand hx hb dX4_bit_17 ?_
  refine lv_iconst (v := nI 1) hx hb dX4_bit_18 (by decide) ?_
  refine lv_icmp_ne (tgt := 26) hx hb dX4_bit_19 (by decide) (fun h1 => ?_) (fun h1 => ?_)
  · skip
    refine lv_iconst (v := nI 0) hx hb dX4_bit_26 (by decide) ?_
    refine top_i (y := bI false) (by decide) ?_
    exact ri hx hb hlk hr hw hS (congrArg bI (decide_eq_false h1).symm) (bI_nar _) (Nat.le_of_ble_eq_true rfl) (Nat.le_of_ble_eq_true rfl) dX4_bit_27
  · skip
    refine lv_iconst (v := nI 1) hx hb dX4_bit_22 (by decide) ?_
    refine lv_goto (tgt := 27) hx hb dX4_bit_23 (by decide) ?_
    refine top_i (y := bI true) (by decide) ?_
    exact ri hx hb hlk hr hw hS (congrArg bI (decide_eq_true h1).symm) (bI_nar _) (Nat.le_of_ble_eq_true rfl) (Nat.le_of_ble_eq_true rfl) dX4_bit_27
set_option maxRecDepth 100000 in
set_option maxHeartbeats 1000000 in
theorem m_isPair (l : Launch) (G : Gm) (S : St) (a : Nat) (ha5 : a < 512) (b : Nat) (hb5 : b < 512) : Pi l yX4_isPair wsX4_isPair ({ frames := 1, cells := 0, slots := 0, locals := 22 } : Room) [.ref (g_ad G 9 0), .int (nI a), .int (nI b)] G S (bI (ipF S a b)) S := by
  refine ent (cc := cX4_isPair) (maxL := 3) (ret := (some .boolean)) (by decide) rfl (Nat.le_of_ble_eq_true rfl) ?_
  intro p e s m below meth c ls C hw hT hS hl
  obtain ⟨hx, hb, hr, hml, hown, hts, hlk⟩ := C
  have hl : lv_has ls 3 [(0, .ref (g_ad G 9 0)), (1, .int (nI a)), (2, .int (nI b))] := hl
  refine lv_iload_n hx hb dX4_isPair_0 rfl (lv_at hl 1 rfl) ?_
  refine lv_iload_n hx hb dX4_isPair_1 rfl (lv_at hl 2 rfl) ?_
  refine lv_icmp_ge (tgt := 17) hx hb dX4_isPair_2 (by decide) (fun h1 => ?_) (fun h1 => ?_)
  · skip
    have h1 : b ≤ a := (nI_leI (by omega) (by omega)).mp h1
    refine lv_aload_n hx hb dX4_isPair_17 rfl (lv_at hl 0 rfl) ?_
    refine gf hx hb hown hts hw hT 9 0 (by decide) (ci := 4) rfl rfl (fun _ h => List.mem_cons_of_mem _ (List.mem_append_right _ h)) 8 (by decide) (List.mem_of_getElem? (i := 1) rfl) (v := .ref (g_ad G 11 2)) rfl dX4_isPair_18 ?_
    refine lv_iload_n hx hb dX4_isPair_21 rfl (lv_at hl 2 rfl) ?_
    refine lv_iload_n hx hb dX4_isPair_22 rfl (lv_at hl 1 rfl) ?_
    refine cSi ⟨hx, hb, hml, hown, hts⟩ (m_bit l G S b (by omega) a (by omega)) (va_cwS 3 hts gX4_isPair_X4_bit rfl rfl rfl (by decide +kernel) ⟨(Nat.le_of_ble_eq_true rfl), (Nat.le_of_ble_eq_true rfl)⟩) hw hT hS (As := [.ref (g_ad G 11 2), .int (nI b), .int (nI a)]) (rest := []) rfl hl.1 rfl (Nat.le_of_ble_eq_true rfl) dX4_isPair_23 ⟨(Nat.le_of_ble_eq_true rfl), (Nat.le_of_ble_eq_true rfl)⟩ (fun H locs hw hS => ?_)
    exact ri hx hb hlk hr hw hS (congrArg bI (by unfold ipF; rw [if_neg (by omega)])) (bI_nar _) (Nat.le_of_ble_eq_true rfl) (Nat.le_of_ble_eq_true rfl) dX4_isPair_26
  · skip
    have h1 : ¬ b ≤ a := fun z => h1 ((nI_leI (by omega) (by omega)).mpr z)
    refine lv_aload_n hx hb dX4_isPair_5 rfl (lv_at hl 0 rfl) ?_
    refine gf hx hb hown hts hw hT 9 0 (by decide) (ci := 4) rfl rfl (fun _ h => List.mem_cons_of_mem _ (List.mem_append_right _ h)) 8 (by decide) (List.mem_of_getElem? (i := 1) rfl) (v := .ref (g_ad G 11 2)) rfl dX4_isPair_6 ?_
    refine lv_iload_n hx hb dX4_isPair_9 rfl (lv_at hl 1 rfl) ?_
    refine lv_iload_n hx hb dX4_isPair_10 rfl (lv_at hl 2 rfl) ?_
    refine cSi ⟨hx, hb, hml, hown, hts⟩ (m_bit l G S a (by omega) b (by omega)) (va_cwS 3 hts gX4_isPair_X4_bit rfl rfl rfl (by decide +kernel) ⟨(Nat.le_of_ble_eq_true rfl), (Nat.le_of_ble_eq_true rfl)⟩) hw hT hS (As := [.ref (g_ad G 11 2), .int (nI a), .int (nI b)]) (rest := []) rfl hl.1 rfl (Nat.le_of_ble_eq_true rfl) dX4_isPair_11 ⟨(Nat.le_of_ble_eq_true rfl), (Nat.le_of_ble_eq_true rfl)⟩ (fun H locs hw hS => ?_)
    refine lv_goto (tgt := 26) hx hb dX4_isPair_14 (by decide) ?_
    exact ri hx hb hlk hr hw hS (congrArg bI (by unfold ipF; rw [if_pos (by omega)])) (bI_nar _) (Nat.le_of_ble_eq_true rfl) (Nat.le_of_ble_eq_true rfl) dX4_isPair_26
set_option maxRecDepth 100000 in
set_option maxHeartbeats 1000000 in
theorem m_pairsOf (l : Launch) (G : Gm) (S : St) (k : Nat) (hk5 : k < 512) : Pi l yX4_pairsOf wsX4_pairsOf ({ frames := 2, cells := 0, slots := 0, locals := 44 } : Room) [.ref (g_ad G 9 0), .int (nI k)] G S (nI (ctB (pkF S k) 512)) S := by
  refine ent (cc := cX4_pairsOf) (maxL := 4) (ret := (some .int)) (by decide) rfl (Nat.le_of_ble_eq_true rfl) ?_
  intro p e s m below meth c ls C hw hT hS hl
  obtain ⟨hx, hb, hr, hml, hown, hts, hlk⟩ := C
  have hl : lv_has ls 4 [(0, .ref (g_ad G 9 0)), (1, .int (nI k))] := hl
  refine lv_iconst (v := nI 0) hx hb dX4_pairsOf_0 (by decide) ?_
  refine lv_istore_n (lv' := [(2, .int (nI 0)), (0, .ref (g_ad G 9 0)), (1, .int (nI k))]) hx hb dX4_pairsOf_1 rfl hl (by decide) rfl (fun ls hl => ?_)
  refine lv_iconst (v := nI 0) hx hb dX4_pairsOf_2 (by decide) ?_
  refine lv_istore_n (lv' := [(3, .int (nI 0)), (2, .int (nI 0)), (0, .ref (g_ad G 9 0)), (1, .int (nI k))]) hx hb dX4_pairsOf_3 rfl hl (by decide) rfl (fun ls hl => ?_)
  have LOOP : ∀ (n o : Nat) (ac : Int32) (H : Heap) (locs : List Loc) (ls : Array Slot), o + n = 512 → (ac = nI (ctB (pkF S k) o)) → wdM G S H s → va_S (g_A G) s.heap H locs → lv_has ls 4 [(3, .int (nI o)), (2, .int ac), (0, .ref (g_ad G 9 0)), (1, .int (nI k))] → W p l e ({ frames := 2, cells := 0, slots := 0, locals := 44 } : Room) s m ([.ref (g_ad G 9 0), .int (nI k)] : List Value).toArray below meth c H locs 0 0 (MQ below (Qi G (nI (ctB (pkF S k) 512)) S) ([.ref (g_ad G 9 0), .int (nI k)] : List Value).toArray s ({ frames := 2, cells := 0, slots := 0, locals := 44 } : Room).cells ({ frames := 2, cells := 0, slots := 0, locals := 44 } : Room).slots (g_A G)) (F0 m 4 ls []) := by
    intro n
    induction n with
    | zero =>
      intro o ac H locs ls hn ha9 hw hS hl
      obtain rfl : 512 = o := by omega
      refine lv_iload_n hx hb dX4_pairsOf_4 rfl (lv_at hl 0 rfl) ?_
      refine lv_sipush (v := nI 512) hx hb dX4_pairsOf_5 (by decide) ?_
      refine lv_icmp_ge (tgt := 39) hx hb dX4_pairsOf_8 (by decide) (fun _ => ?_) (fun q => absurd (by decide) q)
      refine lv_iload_n hx hb dX4_pairsOf_39 rfl (lv_at hl 1 rfl) ?_
      exact ri hx hb hlk hr hw hS ha9 (vp_nar_int _) (Nat.le_of_ble_eq_true rfl) (Nat.le_of_ble_eq_true rfl) dX4_pairsOf_40
    | succ n ih =>
      intro o ac H locs ls hn ha9 hw hS hl
      have ho : o < 512 := by omega
      refine lv_iload_n hx hb dX4_pairsOf_4 rfl (lv_at hl 0 rfl) ?_
      refine lv_sipush (v := nI 512) hx hb dX4_pairsOf_5 (by decide) ?_
      refine lv_icmp_ge (tgt := 39) hx hb dX4_pairsOf_8 (by decide) (fun q => absurd q (nI_ge ho (by decide))) (fun _ => ?_)
      refine lv_iload_n hx hb dX4_pairsOf_11 rfl (lv_at hl 0 rfl) ?_
      refine lv_iload_n hx hb dX4_pairsOf_12 rfl (lv_at hl 3 rfl) ?_
      refine lv_icmp_eq (tgt := 31) hx hb dX4_pairsOf_13 (by decide) (fun h3 => ?_) (fun h3 => ?_)
      · skip
        have h3 : o = k := (nI_eq (by omega) (by omega)).mp h3
        refine lv_iload_n hx hb dX4_pairsOf_31 rfl (lv_at hl 1 rfl) ?_
        refine lv_istore_n (lv' := [(2, .int ac), (3, .int (nI o)), (0, .ref (g_ad G 9 0)), (1, .int (nI k))]) hx hb dX4_pairsOf_32 rfl hl (by decide) rfl (fun ls hl => ?_)
        refine lv_iinc (v := nI (o + 1)) (lv' := [(3, .int (nI (o + 1))), (2, .int ac), (0, .ref (g_ad G 9 0)), (1, .int (nI k))]) hx hb dX4_pairsOf_33 hl (k := 1) rfl (nI_add o 1) (by decide) rfl (fun ls hl => ?_)
        refine lv_goto (tgt := 4) hx hb dX4_pairsOf_36 (by decide) ?_
        exact ih (o + 1) ac H locs ls (by omega) (by rw [ha9]; simp [ctB, pkF, h3, nI_add]) hw hS (lv_sub hl [0, 1, 2, 3] rfl)
      · skip
        have h3 : ¬ o = k := fun z => h3 ((nI_eq (by omega) (by omega)).mpr z)
        refine lv_aload_n hx hb dX4_pairsOf_16 rfl (lv_at hl 2 rfl) ?_
        refine lv_iload_n hx hb dX4_pairsOf_17 rfl (lv_at hl 3 rfl) ?_
        refine lv_iload_n hx hb dX4_pairsOf_18 rfl (lv_at hl 0 rfl) ?_
        refine cVi ⟨hx, hb, hml, hown, hts⟩ (m_isPair l G S k (by omega) o (by omega)) (cwV 2 hts gX4_pairsOf_X4_isPair rfl rfl rfl (by decide +kernel) ⟨(Nat.le_of_ble_eq_true rfl), (Nat.le_of_ble_eq_true rfl)⟩) hw hT hS (rcv hw hT 9 0 (by decide) rfl rfl) (As := [.int (nI k), .int (nI o)]) (rest := []) rfl hl.1 rfl (Nat.le_of_ble_eq_true rfl) dX4_pairsOf_19 ⟨(Nat.le_of_ble_eq_true rfl), (Nat.le_of_ble_eq_true rfl)⟩ (fun H locs hw hS => ?_)
        refine lv_if_eq (tgt := 31) hx hb dX4_pairsOf_22 (by decide) (fun h4 => ?_) (fun h4 => ?_)
        · skip
          have h4 := bI_0.mp h4
          refine lv_iload_n hx hb dX4_pairsOf_31 rfl (lv_at hl 1 rfl) ?_
          refine lv_istore_n (lv' := [(2, .int ac), (3, .int (nI o)), (0, .ref (g_ad G 9 0)), (1, .int (nI k))]) hx hb dX4_pairsOf_32 rfl hl (by decide) rfl (fun ls hl => ?_)
          refine lv_iinc (v := nI (o + 1)) (lv' := [(3, .int (nI (o + 1))), (2, .int ac), (0, .ref (g_ad G 9 0)), (1, .int (nI k))]) hx hb dX4_pairsOf_33 hl (k := 1) rfl (nI_add o 1) (by decide) rfl (fun ls hl => ?_)
          refine lv_goto (tgt := 4) hx hb dX4_pairsOf_36 (by decide) ?_
          exact ih (o + 1) ac H locs ls (by omega) (by rw [ha9]; simp [ctB, pkF, h3, h4, nI_add]) hw hS (lv_sub hl [0, 1, 2, 3] rfl)
        · skip
          have h4 := bI_n0.mp h4
          refine lv_iload_n hx hb dX4_pairsOf_25 rfl (lv_at hl 1 rfl) ?_
          refine lv_iconst (v := nI 1) hx hb dX4_pairsOf_26 (by decide) ?_
          refine lv_iadd hx hb dX4_pairsOf_27 ?_
          refine lv_goto (tgt := 32) hx hb dX4_pairsOf_28 (by decide) ?_
          refine lv_istore_n (lv' := [(2, .int (ac + (nI 1))), (3, .int (nI o)), (0, .ref (g_ad G 9 0)), (1, .int (nI k))]) hx hb dX4_pairsOf_32 rfl hl (by decide) rfl (fun ls hl => ?_)
          refine lv_iinc (v := nI (o + 1)) (lv' := [(3, .int (nI (o + 1))), (2, .int (ac + (nI 1))), (0, .ref (g_ad G 9 0)), (1, .int (nI k))]) hx hb dX4_pairsOf_33 hl (k := 1) rfl (nI_add o 1) (by decide) rfl (fun ls hl => ?_)
          refine lv_goto (tgt := 4) hx hb dX4_pairsOf_36 (by decide) ?_
          exact ih (o + 1) (ac + (nI 1)) H locs ls (by omega) (by rw [ha9]; simp [ctB, pkF, h3, h4, nI_add]) hw hS (lv_sub hl [0, 1, 2, 3] rfl)
  exact LOOP 512 0 (nI 0) _ _ ls (by omega) rfl hw hS (lv_sub hl [0, 1, 2, 3] rfl)
set_option maxRecDepth 100000 in
set_option maxHeartbeats 1000000 in
theorem m_remove (l : Launch) (G : Gm) (S : St) (k : Int32) : Pi l yX4_remove wsX4_remove ({ frames := 3, cells := 0, slots := 0, locals := 67 } : Room) [.ref (g_ad G 9 0), .int k] G S (rmMI S k) (rmMS S k) := by
  refine ent (cc := cX4_remove) (maxL := 6) (ret := (some .int)) (by decide) rfl (Nat.le_of_ble_eq_true rfl) ?_
  intro p e s m below meth c ls C hw hT hS hl
  obtain ⟨hx, hb, hr, hml, hown, hts, hlk⟩ := C
  have hl : lv_has ls 6 [(0, .ref (g_ad G 9 0)), (1, .int k)] := hl
  refine lv_aload_n hx hb dX4_remove_0 rfl (lv_at hl 0 rfl) ?_
  refine lv_aload_n hx hb dX4_remove_1 rfl (lv_at hl 0 rfl) ?_
  refine lv_iload_n hx hb dX4_remove_2 rfl (lv_at hl 1 rfl) ?_
  refine cVi ⟨hx, hb, hml, hown, hts⟩ (m_known l G S k) (cwV 1 hts gX4_remove_X4_known rfl rfl rfl (by decide +kernel) ⟨(Nat.le_of_ble_eq_true rfl), (Nat.le_of_ble_eq_true rfl)⟩) hw hT hS (rcv hw hT 9 0 (by decide) rfl rfl) (As := [.int k]) (rest := [.ref (g_ad G 9 0)]) rfl hl.1 rfl (Nat.le_of_ble_eq_true rfl) dX4_remove_3 ⟨(Nat.le_of_ble_eq_true rfl), (Nat.le_of_ble_eq_true rfl)⟩ (fun H locs hw hS => ?_)
  refine lv_iconst (v := nI 1) hx hb dX4_remove_6 (by decide) ?_
  refine top_i (y := bI true) (by decide) ?_
  refine cVi ⟨hx, hb, hml, hown, hts⟩ (m_goes l G S (kwF S k) true) (cwV 2 hts gX4_remove_X4_goes rfl rfl rfl (by decide +kernel) ⟨(Nat.le_of_ble_eq_true rfl), (Nat.le_of_ble_eq_true rfl)⟩) hw hT hS (rcv hw hT 9 0 (by decide) rfl rfl) (As := [.int (bI (kwF S k)), .int (bI true)]) (rest := []) rfl hl.1 rfl (Nat.le_of_ble_eq_true rfl) dX4_remove_7 ⟨(Nat.le_of_ble_eq_true rfl), (Nat.le_of_ble_eq_true rfl)⟩ (fun H locs hw hS => ?_)
  refine lv_if_ne (tgt := 15) hx hb dX4_remove_10 (by decide) (fun h1 => ?_) (fun h1 => ?_)
  · skip
    have h1 := bI_n0.mp h1
    replace hw : wdM G (okS S) H s := by rw [gs_ok h1] at hw; exact hw
    obtain ⟨kn, hkn, rfl, hth⟩ := kw_nat (and_l h1)
    have kN9 : kN (nI kn) = kn := kN_nI (by omega)
    refine lv_aload_n hx hb dX4_remove_15 rfl (lv_at hl 0 rfl) ?_
    refine lv_iload_n hx hb dX4_remove_16 rfl (lv_at hl 1 rfl) ?_
    refine cVi ⟨hx, hb, hml, hown, hts⟩ (m_pairsOf l G (okS S) kn (by omega)) (cwV 1 hts gX4_remove_X4_pairsOf rfl rfl rfl (by decide +kernel) ⟨(Nat.le_of_ble_eq_true rfl), (Nat.le_of_ble_eq_true rfl)⟩) hw hT hS (rcv hw hT 9 0 (by decide) rfl rfl) (As := [.int (nI kn)]) (rest := []) rfl hl.1 rfl (Nat.le_of_ble_eq_true rfl) dX4_remove_17 ⟨(Nat.le_of_ble_eq_true rfl), (Nat.le_of_ble_eq_true rfl)⟩ (fun H locs hw hS => ?_)
    obtain ⟨r9, hr9⟩ : ∃ z, z = nI (ctB (pkF (okS S) kn) 512) := ⟨_, rfl⟩
    refine top_i (y := r9) hr9.symm ?_
    refine lv_istore_n (lv' := [(2, .int r9), (0, .ref (g_ad G 9 0)), (1, .int (nI kn))]) hx hb dX4_remove_20 rfl hl (by decide) rfl (fun ls hl => ?_)
    refine lv_iconst (v := nI 0) hx hb dX4_remove_21 (by decide) ?_
    refine lv_istore_n (lv' := [(3, .int (nI 0)), (2, .int r9), (0, .ref (g_ad G 9 0)), (1, .int (nI kn))]) hx hb dX4_remove_22 rfl hl (by decide) rfl (fun ls hl => ?_)
    have LOOP : ∀ (n o : Nat) (S2 : St) (H : Heap) (locs : List Loc) (ls : Array Slot), o + n = 512 → (rmR kn n o S2 = rmR kn 512 0 (okS S)) → wdM G S2 H s → va_S (g_A G) s.heap H locs → lv_has ls 6 [(3, .int (nI o)), (2, .int r9), (0, .ref (g_ad G 9 0)), (1, .int (nI kn))] → W p l e ({ frames := 3, cells := 0, slots := 0, locals := 67 } : Room) s m ([.ref (g_ad G 9 0), .int (nI kn)] : List Value).toArray below meth c H locs 0 0 (MQ below (Qi G (rmMI S (nI kn)) (rmMS S (nI kn))) ([.ref (g_ad G 9 0), .int (nI kn)] : List Value).toArray s ({ frames := 3, cells := 0, slots := 0, locals := 67 } : Room).cells ({ frames := 3, cells := 0, slots := 0, locals := 67 } : Room).slots (g_A G)) (F0 m 23 ls []) := by
      intro n
      induction n with
      | zero =>
        intro o S2 H locs ls hn hq hw hS hl
        obtain rfl : 512 = o := by omega
        refine lv_iload_n hx hb dX4_remove_23 rfl (lv_at hl 0 rfl) ?_
        refine lv_sipush (v := nI 512) hx hb dX4_remove_24 (by decide) ?_
        refine lv_icmp_ge (tgt := 102) hx hb dX4_remove_27 (by decide) (fun _ => ?_) (fun q => absurd (by decide) q)
        refine lv_aload_n hx hb dX4_remove_102 rfl (lv_at hl 2 rfl) ?_
        refine gf hx hb hown hts hw hT 9 0 (by decide) (ci := 4) rfl rfl (fun _ h => List.mem_cons_of_mem _ (List.mem_append_right _ h)) 2 (by decide) (List.mem_of_getElem? (i := 2) rfl) (v := .ref (g_ad G 12 0)) rfl dX4_remove_103 ?_
        refine lv_iload_n hx hb dX4_remove_106 rfl (lv_at hl 3 rfl) ?_
        refine lv_iconst (v := nI 0) hx hb dX4_remove_107 (by decide) ?_
        refine top_i (y := bI false) (by decide) ?_
        refine azs (S' := (mZU S2 (va_up (mZS S2) 0 (va_up (mZS S2 0) kn false)))) hx hb hw hT hS 12 0 (by decide) (f := (fun q => bI (mZS S2 0 q))) rfl kn (show kn < 512 by omega) (by decide) (mup_mZ G S2 0 kn false) dX4_remove_108 (fun H locs hw hS => ?_)
        refine lv_aload_n hx hb dX4_remove_109 rfl (lv_at hl 2 rfl) ?_
        refine gf hx hb hown hts hw hT 9 0 (by decide) (ci := 4) rfl rfl (fun _ h => List.mem_cons_of_mem _ (List.mem_append_right _ h)) 3 (by decide) (List.mem_of_getElem? (i := 3) rfl) (v := .ref (g_ad G 12 1)) rfl dX4_remove_110 ?_
        refine lv_iload_n hx hb dX4_remove_113 rfl (lv_at hl 3 rfl) ?_
        refine lv_iconst (v := nI 0) hx hb dX4_remove_114 (by decide) ?_
        refine top_i (y := bI false) (by decide) ?_
        refine azs (S' := (mZU (mZU S2 (va_up (mZS S2) 0 (va_up (mZS S2 0) kn false))) (va_up (mZS (mZU S2 (va_up (mZS S2) 0 (va_up (mZS S2 0) kn false)))) 1 (va_up (mZS S2 1) kn false)))) hx hb hw hT hS 12 1 (by decide) (f := (fun q => bI (mZS S2 1 q))) rfl kn (show kn < 512 by omega) (by decide) (mup_mZ G (mZU S2 (va_up (mZS S2) 0 (va_up (mZS S2 0) kn false))) 1 kn false) dX4_remove_115 (fun H locs hw hS => ?_)
        refine lv_iload_n hx hb dX4_remove_116 rfl (lv_at hl 1 rfl) ?_
        exact ri hx hb hlk hr (by unfold rmMS; rw [if_pos h1, kN9, ← hq]; exact hw) hS (by unfold rmMI; rw [if_pos h1, kN9]; exact hr9) (vp_nar_int _) (Nat.le_of_ble_eq_true rfl) (Nat.le_of_ble_eq_true rfl) dX4_remove_117
      | succ n ih =>
        intro o S2 H locs ls hn hq hw hS hl
        have ho : o < 512 := by omega
        refine lv_iload_n hx hb dX4_remove_23 rfl (lv_at hl 0 rfl) ?_
        refine lv_sipush (v := nI 512) hx hb dX4_remove_24 (by decide) ?_
        refine lv_icmp_ge (tgt := 102) hx hb dX4_remove_27 (by decide) (fun q => absurd q (nI_ge ho (by decide))) (fun _ => ?_)
        refine lv_iload_n hx hb dX4_remove_30 rfl (lv_at hl 0 rfl) ?_
        refine lv_iload_n hx hb dX4_remove_31 rfl (lv_at hl 3 rfl) ?_
        refine lv_icmp_ge (tgt := 39) hx hb dX4_remove_32 (by decide) (fun h4 => ?_) (fun h4 => ?_)
        · skip
          have h4 : kn ≤ o := (nI_leI (by omega) (by omega)).mp h4
          refine lv_iload_n hx hb dX4_remove_39 rfl (lv_at hl 3 rfl) ?_
          refine lv_istore (lv' := [(4, .int (nI kn)), (3, .int (nI o)), (2, .int r9), (0, .ref (g_ad G 9 0)), (1, .int (nI kn))]) hx hb dX4_remove_40 hl (by decide) rfl (fun ls hl => ?_)
          refine lv_iload_n hx hb dX4_remove_42 rfl (lv_at hl 1 rfl) ?_
          refine lv_iload_n hx hb dX4_remove_43 rfl (lv_at hl 4 rfl) ?_
          refine lv_icmp_ge (tgt := 51) hx hb dX4_remove_44 (by decide) (fun _ => ?_) (fun q => absurd (nI_le (show kn ≤ o by omega) (by omega)) q)
          refine lv_iload_n hx hb dX4_remove_51 rfl (lv_at hl 1 rfl) ?_
          refine lv_istore (lv' := [(5, .int (nI o)), (4, .int (nI kn)), (3, .int (nI o)), (2, .int r9), (0, .ref (g_ad G 9 0)), (1, .int (nI kn))]) hx hb dX4_remove_52 hl (by decide) rfl (fun ls hl => ?_)
          refine lv_aload_n hx hb dX4_remove_54 rfl (lv_at hl 4 rfl) ?_
          refine gf hx hb hown hts hw hT 9 0 (by decide) (ci := 4) rfl rfl (fun _ h => List.mem_cons_of_mem _ (List.mem_append_right _ h)) 8 (by decide) (List.mem_of_getElem? (i := 1) rfl) (v := .ref (g_ad G 11 2)) rfl dX4_remove_55 ?_
          refine lv_bipush (v := nI 16) hx hb dX4_remove_58 (by decide) ?_
          refine lv_iload hx hb dX4_remove_60 (lv_at hl 1 rfl) ?_
          refine lv_imul hx hb dX4_remove_62 ?_
          refine top_i (y := nI (16 * kn)) (pk_mul 16 kn) ?_
          refine lv_iload hx hb dX4_remove_63 (lv_at hl 0 rfl) ?_
          refine lv_bipush (v := nI 32) hx hb dX4_remove_65 (by decide) ?_
          refine lv_idiv hx hb dX4_remove_67 (by decide) ?_
          refine top_i (y := nI (o / 32)) (pk_div (by omega) (by decide) (by decide)) ?_
          refine lv_iadd hx hb dX4_remove_68 ?_
          refine top_i (y := nI (16 * kn + (o / 32))) (nI_add (16 * kn) (o / 32)) ?_
          refine lv_aload_n hx hb dX4_remove_69 rfl (lv_at hl 4 rfl) ?_
          refine gf hx hb hown hts hw hT 9 0 (by decide) (ci := 4) rfl rfl (fun _ h => List.mem_cons_of_mem _ (List.mem_append_right _ h)) 8 (by decide) (List.mem_of_getElem? (i := 1) rfl) (v := .ref (g_ad G 11 2)) rfl dX4_remove_70 ?_
          refine lv_bipush (v := nI 16) hx hb dX4_remove_73 (by decide) ?_
          refine lv_iload hx hb dX4_remove_75 (lv_at hl 1 rfl) ?_
          refine lv_imul hx hb dX4_remove_77 ?_
          refine top_i (y := nI (16 * kn)) (pk_mul 16 kn) ?_
          refine lv_iload hx hb dX4_remove_78 (lv_at hl 0 rfl) ?_
          refine lv_bipush (v := nI 32) hx hb dX4_remove_80 (by decide) ?_
          refine lv_idiv hx hb dX4_remove_82 (by decide) ?_
          refine top_i (y := nI (o / 32)) (pk_div (by omega) (by decide) (by decide)) ?_
          refine lv_iadd hx hb dX4_remove_83 ?_
          refine top_i (y := nI (16 * kn + (o / 32))) (nI_add (16 * kn) (o / 32)) ?_
          refine ail hx hb hw hT 11 2 (by decide) (f := mIS S2 2) rfl (16 * kn + (o / 32)) (show 16 * kn + (o / 32) < 8192 by omega) (by decide) dX4_remove_84 ?_
          refine lv_iconst (v := nI 1) hx hb dX4_remove_85 (by decide) ?_
          refine lv_iload hx hb dX4_remove_86 (lv_at hl 0 rfl) ?_
          refine lv_bipush (v := nI 32) hx hb dX4_remove_88 (by decide) ?_
          refine lv_irem hx hb dX4_remove_90 (by decide) ?_
          refine top_i (y := nI (o % 32)) (pk_rem (by omega) (by decide) (by decide)) ?_
          refine lv_ishl hx hb dX4_remove_91 ?_
          refine lv_iconst (v := (-1)) hx hb dX4_remove_92 (by decide) ?_
          refine lv_ixor hx hb dX4_remove_93 ?_
          refine lv_iand hx hb dX4_remove_94 ?_
          refine ais (S' := (mIU S2 (va_up (mIS S2) 2 (va_up (mIS S2 2) (16 * kn + (o / 32)) ((mIS S2 2 (16 * kn + (o / 32))) &&& (((nI 1) <<< ((nI (o % 32)) &&& 31)) ^^^ ((-1)))))))) hx hb hw hT hS 11 2 (by decide) (f := mIS S2 2) rfl (16 * kn + (o / 32)) (show 16 * kn + (o / 32) < 8192 by omega) (by decide) (mup_mI G S2 2 (va_up (mIS S2 2) (16 * kn + (o / 32)) ((mIS S2 2 (16 * kn + (o / 32))) &&& (((nI 1) <<< ((nI (o % 32)) &&& 31)) ^^^ ((-1)))))) dX4_remove_95 (fun H locs hw hS => ?_)
          refine lv_iinc (v := nI (o + 1)) (lv' := [(3, .int (nI (o + 1))), (5, .int (nI o)), (4, .int (nI kn)), (2, .int r9), (0, .ref (g_ad G 9 0)), (1, .int (nI kn))]) hx hb dX4_remove_96 hl (k := 2) rfl (nI_add o 1) (by decide) rfl (fun ls hl => ?_)
          refine lv_goto (tgt := 23) hx hb dX4_remove_99 (by decide) ?_
          have hw : wdM G (if o < kn then clS S2 o kn else clS S2 kn o) H s := by
            rw [if_neg (by omega)]
            exact hw
          exact ih (o + 1) (if o < kn then clS S2 o kn else clS S2 kn o) H locs ls (by omega) (by rw [← hq, rmR]) hw hS (lv_sub hl [0, 3, 4, 5] rfl)
        · skip
          have h4 : ¬ kn ≤ o := fun z => h4 ((nI_leI (by omega) (by omega)).mpr z)
          refine lv_iload_n hx hb dX4_remove_35 rfl (lv_at hl 0 rfl) ?_
          refine lv_goto (tgt := 40) hx hb dX4_remove_36 (by decide) ?_
          refine lv_istore (lv' := [(4, .int (nI o)), (3, .int (nI o)), (2, .int r9), (0, .ref (g_ad G 9 0)), (1, .int (nI kn))]) hx hb dX4_remove_40 hl (by decide) rfl (fun ls hl => ?_)
          refine lv_iload_n hx hb dX4_remove_42 rfl (lv_at hl 1 rfl) ?_
          refine lv_iload_n hx hb dX4_remove_43 rfl (lv_at hl 4 rfl) ?_
          refine lv_icmp_ge (tgt := 51) hx hb dX4_remove_44 (by decide) (fun q => absurd q (nI_ge (show o < kn by omega) (by omega))) (fun _ => ?_)
          refine lv_iload_n hx hb dX4_remove_47 rfl (lv_at hl 4 rfl) ?_
          refine lv_goto (tgt := 52) hx hb dX4_remove_48 (by decide) ?_
          refine lv_istore (lv' := [(5, .int (nI kn)), (4, .int (nI o)), (3, .int (nI o)), (2, .int r9), (0, .ref (g_ad G 9 0)), (1, .int (nI kn))]) hx hb dX4_remove_52 hl (by decide) rfl (fun ls hl => ?_)
          refine lv_aload_n hx hb dX4_remove_54 rfl (lv_at hl 4 rfl) ?_
          refine gf hx hb hown hts hw hT 9 0 (by decide) (ci := 4) rfl rfl (fun _ h => List.mem_cons_of_mem _ (List.mem_append_right _ h)) 8 (by decide) (List.mem_of_getElem? (i := 1) rfl) (v := .ref (g_ad G 11 2)) rfl dX4_remove_55 ?_
          refine lv_bipush (v := nI 16) hx hb dX4_remove_58 (by decide) ?_
          refine lv_iload hx hb dX4_remove_60 (lv_at hl 1 rfl) ?_
          refine lv_imul hx hb dX4_remove_62 ?_
          refine top_i (y := nI (16 * o)) (pk_mul 16 o) ?_
          refine lv_iload hx hb dX4_remove_63 (lv_at hl 0 rfl) ?_
          refine lv_bipush (v := nI 32) hx hb dX4_remove_65 (by decide) ?_
          refine lv_idiv hx hb dX4_remove_67 (by decide) ?_
          refine top_i (y := nI (kn / 32)) (pk_div (by omega) (by decide) (by decide)) ?_
          refine lv_iadd hx hb dX4_remove_68 ?_
          refine top_i (y := nI (16 * o + (kn / 32))) (nI_add (16 * o) (kn / 32)) ?_
          refine lv_aload_n hx hb dX4_remove_69 rfl (lv_at hl 4 rfl) ?_
          refine gf hx hb hown hts hw hT 9 0 (by decide) (ci := 4) rfl rfl (fun _ h => List.mem_cons_of_mem _ (List.mem_append_right _ h)) 8 (by decide) (List.mem_of_getElem? (i := 1) rfl) (v := .ref (g_ad G 11 2)) rfl dX4_remove_70 ?_
          refine lv_bipush (v := nI 16) hx hb dX4_remove_73 (by decide) ?_
          refine lv_iload hx hb dX4_remove_75 (lv_at hl 1 rfl) ?_
          refine lv_imul hx hb dX4_remove_77 ?_
          refine top_i (y := nI (16 * o)) (pk_mul 16 o) ?_
          refine lv_iload hx hb dX4_remove_78 (lv_at hl 0 rfl) ?_
          refine lv_bipush (v := nI 32) hx hb dX4_remove_80 (by decide) ?_
          refine lv_idiv hx hb dX4_remove_82 (by decide) ?_
          refine top_i (y := nI (kn / 32)) (pk_div (by omega) (by decide) (by decide)) ?_
          refine lv_iadd hx hb dX4_remove_83 ?_
          refine top_i (y := nI (16 * o + (kn / 32))) (nI_add (16 * o) (kn / 32)) ?_
          refine ail hx hb hw hT 11 2 (by decide) (f := mIS S2 2) rfl (16 * o + (kn / 32)) (show 16 * o + (kn / 32) < 8192 by omega) (by decide) dX4_remove_84 ?_
          refine lv_iconst (v := nI 1) hx hb dX4_remove_85 (by decide) ?_
          refine lv_iload hx hb dX4_remove_86 (lv_at hl 0 rfl) ?_
          refine lv_bipush (v := nI 32) hx hb dX4_remove_88 (by decide) ?_
          refine lv_irem hx hb dX4_remove_90 (by decide) ?_
          refine top_i (y := nI (kn % 32)) (pk_rem (by omega) (by decide) (by decide)) ?_
          refine lv_ishl hx hb dX4_remove_91 ?_
          refine lv_iconst (v := (-1)) hx hb dX4_remove_92 (by decide) ?_
          refine lv_ixor hx hb dX4_remove_93 ?_
          refine lv_iand hx hb dX4_remove_94 ?_
          refine ais (S' := (mIU S2 (va_up (mIS S2) 2 (va_up (mIS S2 2) (16 * o + (kn / 32)) ((mIS S2 2 (16 * o + (kn / 32))) &&& (((nI 1) <<< ((nI (kn % 32)) &&& 31)) ^^^ ((-1)))))))) hx hb hw hT hS 11 2 (by decide) (f := mIS S2 2) rfl (16 * o + (kn / 32)) (show 16 * o + (kn / 32) < 8192 by omega) (by decide) (mup_mI G S2 2 (va_up (mIS S2 2) (16 * o + (kn / 32)) ((mIS S2 2 (16 * o + (kn / 32))) &&& (((nI 1) <<< ((nI (kn % 32)) &&& 31)) ^^^ ((-1)))))) dX4_remove_95 (fun H locs hw hS => ?_)
          refine lv_iinc (v := nI (o + 1)) (lv' := [(3, .int (nI (o + 1))), (5, .int (nI kn)), (4, .int (nI o)), (2, .int r9), (0, .ref (g_ad G 9 0)), (1, .int (nI kn))]) hx hb dX4_remove_96 hl (k := 2) rfl (nI_add o 1) (by decide) rfl (fun ls hl => ?_)
          refine lv_goto (tgt := 23) hx hb dX4_remove_99 (by decide) ?_
          have hw : wdM G (if o < kn then clS S2 o kn else clS S2 kn o) H s := by
            rw [if_pos (by omega)]
            exact hw
          exact ih (o + 1) (if o < kn then clS S2 o kn else clS S2 kn o) H locs ls (by omega) (by rw [← hq, rmR]) hw hS (lv_sub hl [0, 3, 4, 5] rfl)
    exact LOOP 512 0 ((okS S)) _ _ ls (by omega) rfl hw hS (lv_sub hl [0, 1, 2, 3] rfl)
  · skip
    have h1 := bI_0.mp h1
    refine lv_iconst (v := nI 0) hx hb dX4_remove_13 (by decide) ?_
    exact ri hx hb hlk hr (by unfold rmMS; rw [if_neg (by rw [h1]; decide)]; exact hw) hS (by unfold rmMI; rw [if_neg (by rw [h1]; decide)]) (vp_nar_int _) (Nat.le_of_ble_eq_true rfl) (Nat.le_of_ble_eq_true rfl) dX4_remove_14
set_option maxRecDepth 100000 in
set_option maxHeartbeats 1000000 in
theorem m_filter (l : Launch) (G : Gm) (S : St) (k g m9 : Int32) : Pv l yX4_filter wsX4_filter ({ frames := 1, cells := 0, slots := 0, locals := 22 } : Room) [.ref (g_ad G 9 0), .int k, .int g, .int m9] G S (fiMS S k g m9) := by
  refine ent (cc := cX4_filter) (maxL := 4) (ret := none) (by decide) rfl (Nat.le_of_ble_eq_true rfl) ?_
  intro p e s m below meth c ls C hw hT hS hl
  obtain ⟨hx, hb, hr, hml, hown, hts, hlk⟩ := C
  have hl : lv_has ls 4 [(0, .ref (g_ad G 9 0)), (1, .int k), (2, .int g), (3, .int m9)] := hl
  refine lv_aload_n hx hb dX4_filter_0 rfl (lv_at hl 0 rfl) ?_
  refine lv_aload_n hx hb dX4_filter_1 rfl (lv_at hl 0 rfl) ?_
  refine lv_iload_n hx hb dX4_filter_2 rfl (lv_at hl 1 rfl) ?_
  refine cVi ⟨hx, hb, hml, hown, hts⟩ (m_known l G S k) (cwV 1 hts gX4_filter_X4_known rfl rfl rfl (by decide +kernel) ⟨(Nat.le_of_ble_eq_true rfl), (Nat.le_of_ble_eq_true rfl)⟩) hw hT hS (rcv hw hT 9 0 (by decide) rfl rfl) (As := [.int k]) (rest := [.ref (g_ad G 9 0)]) rfl hl.1 rfl (Nat.le_of_ble_eq_true rfl) dX4_filter_3 ⟨(Nat.le_of_ble_eq_true rfl), (Nat.le_of_ble_eq_true rfl)⟩ (fun H locs hw hS => ?_)
  refine lv_iconst (v := nI 1) hx hb dX4_filter_6 (by decide) ?_
  refine top_i (y := bI true) (by decide) ?_
  refine cVi ⟨hx, hb, hml, hown, hts⟩ (m_goes l G S (kwF S k) true) (cwV 2 hts gX4_filter_X4_goes rfl rfl rfl (by decide +kernel) ⟨(Nat.le_of_ble_eq_true rfl), (Nat.le_of_ble_eq_true rfl)⟩) hw hT hS (rcv hw hT 9 0 (by decide) rfl rfl) (As := [.int (bI (kwF S k)), .int (bI true)]) (rest := []) rfl hl.1 rfl (Nat.le_of_ble_eq_true rfl) dX4_filter_7 ⟨(Nat.le_of_ble_eq_true rfl), (Nat.le_of_ble_eq_true rfl)⟩ (fun H locs hw hS => ?_)
  refine lv_if_eq (tgt := 34) hx hb dX4_filter_10 (by decide) (fun h1 => ?_) (fun h1 => ?_)
  · skip
    have h1 := bI_0.mp h1
    exact rv hx hb hlk hr (by unfold fiMS; rw [if_neg (by rw [h1]; decide)]; exact hw) hS  (Nat.le_of_ble_eq_true rfl) (Nat.le_of_ble_eq_true rfl) dX4_filter_34
  · skip
    have h1 := bI_n0.mp h1
    replace hw : wdM G (okS S) H s := by rw [gs_ok h1] at hw; exact hw
    obtain ⟨kn, hkn, rfl, hth⟩ := kw_nat (and_l h1)
    have kN9 : kN (nI kn) = kn := kN_nI (by omega)
    obtain ⟨X9, hX9⟩ : ∃ z, z = okS S := ⟨_, rfl⟩
    rw [← hX9] at hw
    refine lv_aload_n hx hb dX4_filter_13 rfl (lv_at hl 0 rfl) ?_
    refine gf hx hb hown hts hw hT 9 0 (by decide) (ci := 4) rfl rfl (fun _ h => List.mem_cons_of_mem _ (List.mem_append_right _ h)) 4 (by decide) (List.mem_of_getElem? (i := 1) rfl) (v := .ref (g_ad G 11 0)) rfl dX4_filter_14 ?_
    refine lv_iload_n hx hb dX4_filter_17 rfl (lv_at hl 1 rfl) ?_
    refine lv_iload_n hx hb dX4_filter_18 rfl (lv_at hl 2 rfl) ?_
    refine ais (S' := (mIU X9 (va_up (mIS X9) 0 (va_up (mIS X9 0) kn g)))) hx hb hw hT hS 11 0 (by decide) (f := mIS X9 0) rfl kn (show kn < 512 by omega) (by decide) (mup_mI G X9 0 (va_up (mIS X9 0) kn g)) dX4_filter_19 (fun H locs hw hS => ?_)
    refine lv_aload_n hx hb dX4_filter_20 rfl (lv_at hl 0 rfl) ?_
    refine gf hx hb hown hts hw hT 9 0 (by decide) (ci := 4) rfl rfl (fun _ h => List.mem_cons_of_mem _ (List.mem_append_right _ h)) 5 (by decide) (List.mem_of_getElem? (i := 2) rfl) (v := .ref (g_ad G 11 1)) rfl dX4_filter_21 ?_
    refine lv_iload_n hx hb dX4_filter_24 rfl (lv_at hl 1 rfl) ?_
    refine lv_iload_n hx hb dX4_filter_25 rfl (lv_at hl 3 rfl) ?_
    refine ais (S' := (mIU (mIU X9 (va_up (mIS X9) 0 (va_up (mIS X9 0) kn g))) (va_up (mIS (mIU X9 (va_up (mIS X9) 0 (va_up (mIS X9 0) kn g)))) 1 (va_up (mIS X9 1) kn m9)))) hx hb hw hT hS 11 1 (by decide) (f := mIS X9 1) rfl kn (show kn < 512 by omega) (by decide) (mup_mI G (mIU X9 (va_up (mIS X9) 0 (va_up (mIS X9 0) kn g))) 1 (va_up (mIS X9 1) kn m9)) dX4_filter_26 (fun H locs hw hS => ?_)
    refine lv_aload_n hx hb dX4_filter_27 rfl (lv_at hl 0 rfl) ?_
    refine gf hx hb hown hts hw hT 9 0 (by decide) (ci := 4) rfl rfl (fun _ h => List.mem_cons_of_mem _ (List.mem_append_right _ h)) 3 (by decide) (List.mem_of_getElem? (i := 3) rfl) (v := .ref (g_ad G 12 1)) rfl dX4_filter_28 ?_
    refine lv_iload_n hx hb dX4_filter_31 rfl (lv_at hl 1 rfl) ?_
    refine lv_iconst (v := nI 1) hx hb dX4_filter_32 (by decide) ?_
    refine top_i (y := bI true) (by decide) ?_
    refine azs (S' := (mZU (mIU (mIU X9 (va_up (mIS X9) 0 (va_up (mIS X9 0) kn g))) (va_up (mIS (mIU X9 (va_up (mIS X9) 0 (va_up (mIS X9 0) kn g)))) 1 (va_up (mIS X9 1) kn m9))) (va_up (mZS (mIU (mIU X9 (va_up (mIS X9) 0 (va_up (mIS X9 0) kn g))) (va_up (mIS (mIU X9 (va_up (mIS X9) 0 (va_up (mIS X9 0) kn g)))) 1 (va_up (mIS X9 1) kn m9)))) 1 (va_up (mZS X9 1) kn true)))) hx hb hw hT hS 12 1 (by decide) (f := (fun q => bI (mZS X9 1 q))) rfl kn (show kn < 512 by omega) (by decide) (mup_mZ G (mIU (mIU X9 (va_up (mIS X9) 0 (va_up (mIS X9 0) kn g))) (va_up (mIS (mIU X9 (va_up (mIS X9) 0 (va_up (mIS X9 0) kn g)))) 1 (va_up (mIS X9 1) kn m9))) 1 kn true) dX4_filter_33 (fun H locs hw hS => ?_)
    exact rv hx hb hlk hr (by unfold fiMS; rw [if_pos h1, kN9, ← hX9]; exact hw) hS  (Nat.le_of_ble_eq_true rfl) (Nat.le_of_ble_eq_true rfl) dX4_filter_34
set_option maxRecDepth 100000 in
set_option maxHeartbeats 1000000 in
theorem m_put (l : Launch) (G : Gm) (S : St) (b : Nat) (hls : lsR (mZS S 0) 512 0 = b) (hb5 : b < 512) (hG : Gb (mFS S 4)) (g m9 : Int32) : Pi l yX4_put wsX4_put ({ frames := 2, cells := 0, slots := 0, locals := 50 } : Room) [.ref (g_ad G 9 0), .int g, .int m9] G S (nI b) (puS S b g m9) := by
  refine ent (cc := cX4_put) (maxL := 4) (ret := (some .int)) (by decide) rfl (Nat.le_of_ble_eq_true rfl) ?_
  intro p e s m below meth c ls C hw hT hS hl
  obtain ⟨hx, hb, hr, hml, hown, hts, hlk⟩ := C
  have hl : lv_has ls 4 [(0, .ref (g_ad G 9 0)), (1, .int g), (2, .int m9)] := hl
  refine lv_aload_n hx hb dX4_put_0 rfl (lv_at hl 0 rfl) ?_
  refine cVi ⟨hx, hb, hml, hown, hts⟩ (m_least l G S) (cwV 0 hts gX4_put_X4_least rfl rfl rfl (by decide +kernel) ⟨(Nat.le_of_ble_eq_true rfl), (Nat.le_of_ble_eq_true rfl)⟩) hw hT hS (rcv hw hT 9 0 (by decide) rfl rfl) (As := []) (rest := []) rfl hl.1 rfl (Nat.le_of_ble_eq_true rfl) dX4_put_1 ⟨(Nat.le_of_ble_eq_true rfl), (Nat.le_of_ble_eq_true rfl)⟩ (fun H locs hw hS => ?_)
  refine top_i (y := nI b) (congrArg nI hls) ?_
  refine lv_istore_n (lv' := [(3, .int (nI b)), (0, .ref (g_ad G 9 0)), (1, .int g), (2, .int m9)]) hx hb dX4_put_4 rfl hl (by decide) rfl (fun ls hl => ?_)
  refine lv_aload_n hx hb dX4_put_5 rfl (lv_at hl 1 rfl) ?_
  refine gf hx hb hown hts hw hT 9 0 (by decide) (ci := 4) rfl rfl (fun _ h => List.mem_cons_of_mem _ (List.mem_append_right _ h)) 2 (by decide) (List.mem_of_getElem? (i := 1) rfl) (v := .ref (g_ad G 12 0)) rfl dX4_put_6 ?_
  refine lv_iload_n hx hb dX4_put_9 rfl (lv_at hl 0 rfl) ?_
  refine lv_iconst (v := nI 1) hx hb dX4_put_10 (by decide) ?_
  refine top_i (y := bI true) (by decide) ?_
  refine azs (S' := (mZU S (va_up (mZS S) 0 (va_up (mZS S 0) b true)))) hx hb hw hT hS 12 0 (by decide) (f := (fun q => bI (mZS S 0 q))) rfl b (show b < 512 by omega) (by decide) (mup_mZ G S 0 b true) dX4_put_11 (fun H locs hw hS => ?_)
  refine lv_aload_n hx hb dX4_put_12 rfl (lv_at hl 1 rfl) ?_
  refine gf hx hb hown hts hw hT 9 0 (by decide) (ci := 4) rfl rfl (fun _ h => List.mem_cons_of_mem _ (List.mem_append_right _ h)) 4 (by decide) (List.mem_of_getElem? (i := 2) rfl) (v := .ref (g_ad G 11 0)) rfl dX4_put_13 ?_
  refine lv_iload_n hx hb dX4_put_16 rfl (lv_at hl 0 rfl) ?_
  refine lv_iload_n hx hb dX4_put_17 rfl (lv_at hl 2 rfl) ?_
  refine ais (S' := (mIU (mZU S (va_up (mZS S) 0 (va_up (mZS S 0) b true))) (va_up (mIS (mZU S (va_up (mZS S) 0 (va_up (mZS S 0) b true)))) 0 (va_up (mIS S 0) b g)))) hx hb hw hT hS 11 0 (by decide) (f := mIS S 0) rfl b (show b < 512 by omega) (by decide) (mup_mI G (mZU S (va_up (mZS S) 0 (va_up (mZS S 0) b true))) 0 (va_up (mIS S 0) b g)) dX4_put_18 (fun H locs hw hS => ?_)
  refine lv_aload_n hx hb dX4_put_19 rfl (lv_at hl 1 rfl) ?_
  refine gf hx hb hown hts hw hT 9 0 (by decide) (ci := 4) rfl rfl (fun _ h => List.mem_cons_of_mem _ (List.mem_append_right _ h)) 5 (by decide) (List.mem_of_getElem? (i := 3) rfl) (v := .ref (g_ad G 11 1)) rfl dX4_put_20 ?_
  refine lv_iload_n hx hb dX4_put_23 rfl (lv_at hl 0 rfl) ?_
  refine lv_iload_n hx hb dX4_put_24 rfl (lv_at hl 3 rfl) ?_
  refine ais (S' := (mIU (mIU (mZU S (va_up (mZS S) 0 (va_up (mZS S 0) b true))) (va_up (mIS (mZU S (va_up (mZS S) 0 (va_up (mZS S 0) b true)))) 0 (va_up (mIS S 0) b g))) (va_up (mIS (mIU (mZU S (va_up (mZS S) 0 (va_up (mZS S 0) b true))) (va_up (mIS (mZU S (va_up (mZS S) 0 (va_up (mZS S 0) b true)))) 0 (va_up (mIS S 0) b g)))) 1 (va_up (mIS S 1) b m9)))) hx hb hw hT hS 11 1 (by decide) (f := mIS S 1) rfl b (show b < 512 by omega) (by decide) (mup_mI G (mIU (mZU S (va_up (mZS S) 0 (va_up (mZS S 0) b true))) (va_up (mIS (mZU S (va_up (mZS S) 0 (va_up (mZS S 0) b true)))) 0 (va_up (mIS S 0) b g))) 1 (va_up (mIS S 1) b m9)) dX4_put_25 (fun H locs hw hS => ?_)
  have hw : wdM G (puT S b g m9) H s := hw
  refine lv_aload_n hx hb dX4_put_26 rfl (lv_at hl 1 rfl) ?_
  refine lv_iload_n hx hb dX4_put_27 rfl (lv_at hl 0 rfl) ?_
  refine lv_fconst0 hx hb dX4_put_28 ?_
  refine lv_fconst0 hx hb dX4_put_29 ?_
  refine lv_fconst0 hx hb dX4_put_30 ?_
  refine cVv ⟨hx, hb, hml, hown, hts⟩ (m_settle l G (puT S b g m9) b (by omega) FP.fconst0 FP.fconst0 FP.fconst0 (se_n (by rw [pu_4]; exact hG) mg_0 mg_0 mg_0)) (cwV 4 hts gX4_put_X4_settle rfl rfl rfl (by decide +kernel) ⟨(Nat.le_of_ble_eq_true rfl), (Nat.le_of_ble_eq_true rfl)⟩) hw hT hS (rcv hw hT 9 0 (by decide) rfl rfl) (As := [.int (nI b), .float FP.fconst0, .float FP.fconst0, .float FP.fconst0]) (rest := []) rfl hl.1 rfl (Nat.le_of_ble_eq_true rfl) dX4_put_31 ⟨(Nat.le_of_ble_eq_true rfl), (Nat.le_of_ble_eq_true rfl)⟩ (fun H locs hw hS => ?_)
  refine lv_iload_n hx hb dX4_put_34 rfl (lv_at hl 0 rfl) ?_
  exact ri hx hb hlk hr hw hS rfl (vp_nar_int _) (Nat.le_of_ble_eq_true rfl) (Nat.le_of_ble_eq_true rfl) dX4_put_35
set_option maxRecDepth 100000 in
set_option maxHeartbeats 1000000 in
theorem m_add (l : Launch) (G : Gm) (S : St) (hp : Gb (mFS S 0)) (g m9 : Int32) : Pi l yX4_add wsX4_add ({ frames := 3, cells := 0, slots := 0, locals := 73 } : Room) [.ref (g_ad G 9 0), .int g, .int m9] G S (adMI S) (adMS S g m9) := by
  refine ent (cc := cX4_add) (maxL := 3) (ret := (some .int)) (by decide) rfl (Nat.le_of_ble_eq_true rfl) ?_
  intro p e s m below meth c ls C hw hT hS hl
  obtain ⟨hx, hb, hr, hml, hown, hts, hlk⟩ := C
  have hl : lv_has ls 3 [(0, .ref (g_ad G 9 0)), (1, .int g), (2, .int m9)] := hl
  refine lv_aload_n hx hb dX4_add_0 rfl (lv_at hl 0 rfl) ?_
  refine lv_aload_n hx hb dX4_add_1 rfl (lv_at hl 0 rfl) ?_
  refine cVi ⟨hx, hb, hml, hown, hts⟩ (m_padIsBox l G S) (cwV 0 hts gX4_add_X4_padIsBox rfl rfl rfl (by decide +kernel) ⟨(Nat.le_of_ble_eq_true rfl), (Nat.le_of_ble_eq_true rfl)⟩) hw hT hS (rcv hw hT 9 0 (by decide) rfl rfl) (As := []) (rest := [.ref (g_ad G 9 0)]) rfl hl.1 rfl (Nat.le_of_ble_eq_true rfl) dX4_add_2 ⟨(Nat.le_of_ble_eq_true rfl), (Nat.le_of_ble_eq_true rfl)⟩ (fun H locs hw hS => ?_)
  have K1 : ∀ (b9 : Bool) (H : Heap) (locs : List Loc), b9 = (decide (ctB (mZS S 0) 512 < 512)) → wdM G S H s → va_S (g_A G) s.heap H locs → W p l e ({ frames := 3, cells := 0, slots := 0, locals := 73 } : Room) s m ([.ref (g_ad G 9 0), .int g, .int m9] : List Value).toArray below meth c H locs 0 0 (MQ below (Qi G (adMI S) (adMS S g m9)) ([.ref (g_ad G 9 0), .int g, .int m9] : List Value).toArray s ({ frames := 3, cells := 0, slots := 0, locals := 73 } : Room).cells ({ frames := 3, cells := 0, slots := 0, locals := 73 } : Room).slots (g_A G)) (F0 m 20 ls [.int (bI b9), .int (bI (pbF (mFS S 0))), .ref (g_ad G 9 0)]) := by
    intro b9 H locs hb9 hw hS
    subst hb9
    refine cVi ⟨hx, hb, hml, hown, hts⟩ (m_goes l G S (pbF (mFS S 0)) (decide (ctB (mZS S 0) 512 < 512))) (cwV 2 hts gX4_add_X4_goes rfl rfl rfl (by decide +kernel) ⟨(Nat.le_of_ble_eq_true rfl), (Nat.le_of_ble_eq_true rfl)⟩) hw hT hS (rcv hw hT 9 0 (by decide) rfl rfl) (As := [.int (bI (pbF (mFS S 0))), .int (bI (decide (ctB (mZS S 0) 512 < 512)))]) (rest := []) rfl hl.1 rfl (Nat.le_of_ble_eq_true rfl) dX4_add_20 ⟨(Nat.le_of_ble_eq_true rfl), (Nat.le_of_ble_eq_true rfl)⟩ (fun H locs hw hS => ?_)
    refine lv_if_ne (tgt := 28) hx hb dX4_add_23 (by decide) (fun h2 => ?_) (fun h2 => ?_)
    · skip
      have h2 := bI_n0.mp h2
      replace hw : wdM G (okS S) H s := by rw [gs_ok h2] at hw; exact hw
      obtain ⟨b, hls⟩ : ∃ b, lsR (mZS S 0) 512 0 = b := ⟨_, rfl⟩
      have hb5 : b < 512 := by rw [← hls]; exact ls_lt (of_decide_eq_true (and_r h2))
      refine lv_aload_n hx hb dX4_add_28 rfl (lv_at hl 0 rfl) ?_
      refine cVv ⟨hx, hb, hml, hown, hts⟩ (m_takePad l G (okS S)) (cwV 0 hts gX4_add_X4_takePad rfl rfl rfl (by decide +kernel) ⟨(Nat.le_of_ble_eq_true rfl), (Nat.le_of_ble_eq_true rfl)⟩) hw hT hS (rcv hw hT 9 0 (by decide) rfl rfl) (As := []) (rest := []) rfl hl.1 rfl (Nat.le_of_ble_eq_true rfl) dX4_add_29 ⟨(Nat.le_of_ble_eq_true rfl), (Nat.le_of_ble_eq_true rfl)⟩ (fun H locs hw hS => ?_)
      refine lv_aload_n hx hb dX4_add_32 rfl (lv_at hl 0 rfl) ?_
      refine lv_iload_n hx hb dX4_add_33 rfl (lv_at hl 1 rfl) ?_
      refine lv_iload_n hx hb dX4_add_34 rfl (lv_at hl 2 rfl) ?_
      refine cVi ⟨hx, hb, hml, hown, hts⟩ (m_put l G (tkS (okS S)) b hls (by omega) (tk_gb hp) g m9) (cwV 2 hts gX4_add_X4_put rfl rfl rfl (by decide +kernel) ⟨(Nat.le_of_ble_eq_true rfl), (Nat.le_of_ble_eq_true rfl)⟩) hw hT hS (rcv hw hT 9 0 (by decide) rfl rfl) (As := [.int g, .int m9]) (rest := []) rfl hl.1 rfl (Nat.le_of_ble_eq_true rfl) dX4_add_35 ⟨(Nat.le_of_ble_eq_true rfl), (Nat.le_of_ble_eq_true rfl)⟩ (fun H locs hw hS => ?_)
      exact ri hx hb hlk hr (by unfold adMS; rw [if_pos h2, hls]; exact hw) hS (by unfold adMI; rw [if_pos h2, hls]) (vp_nar_int _) (Nat.le_of_ble_eq_true rfl) (Nat.le_of_ble_eq_true rfl) dX4_add_38
    · skip
      have h2 := bI_0.mp h2
      refine lv_iconst (v := nI 0) hx hb dX4_add_26 (by decide) ?_
      exact ri hx hb hlk hr (by unfold adMS; rw [if_neg (by rw [h2]; decide)]; exact hw) hS (by unfold adMI; rw [if_neg (by rw [h2]; decide)]) (vp_nar_int _) (Nat.le_of_ble_eq_true rfl) (Nat.le_of_ble_eq_true rfl) dX4_add_27
  refine lv_aload_n hx hb dX4_add_5 rfl (lv_at hl 0 rfl) ?_
  refine cVi ⟨hx, hb, hml, hown, hts⟩ (m_bodies l G S) (cwV 0 hts gX4_add_X4_bodies rfl rfl rfl (by decide +kernel) ⟨(Nat.le_of_ble_eq_true rfl), (Nat.le_of_ble_eq_true rfl)⟩) hw hT hS (rcv hw hT 9 0 (by decide) rfl rfl) (As := []) (rest := [.int (bI (pbF (mFS S 0))), .ref (g_ad G 9 0)]) rfl hl.1 rfl (Nat.le_of_ble_eq_true rfl) dX4_add_6 ⟨(Nat.le_of_ble_eq_true rfl), (Nat.le_of_ble_eq_true rfl)⟩ (fun H locs hw hS => ?_)
  have hct := ctB_le (mZS S 0) 512
  refine lv_sipush (v := nI 512) hx hb dX4_add_9 (by decide) ?_
  refine lv_icmp_ge (tgt := 19) hx hb dX4_add_12 (by decide) (fun h3 => ?_) (fun h3 => ?_)
  · skip
    have h3 : 512 ≤ (ctB (mZS S 0) 512) := (nI_leI (by omega) (by omega)).mp h3
    refine lv_iconst (v := nI 0) hx hb dX4_add_19 (by decide) ?_
    refine top_i (y := bI false) (by decide) ?_
    exact K1 false _ _ (decide_eq_false (by omega)).symm hw hS
  · skip
    have h3 : ¬ 512 ≤ (ctB (mZS S 0) 512) := fun z => h3 ((nI_leI (by omega) (by omega)).mpr z)
    refine lv_iconst (v := nI 1) hx hb dX4_add_15 (by decide) ?_
    refine lv_goto (tgt := 20) hx hb dX4_add_16 (by decide) ?_
    refine top_i (y := bI true) (by decide) ?_
    exact K1 true _ _ (decide_eq_true (by omega)).symm hw hS
set_option maxRecDepth 100000 in
set_option maxHeartbeats 1000000 in
theorem m_moves (l : Launch) (G : Gm) (S : St) (b : Nat) (hb5 : b < 512) (dx dy dz : UInt32) (hn : waN (mFS S 4) 0 dx ∧ waN (mFS S 4) 1 dy ∧ waN (mFS S 4) 2 dz) : Pi l yX4_moves wsX4_moves ({ frames := 2, cells := 0, slots := 0, locals := 50 } : Room) [.ref (g_ad G 9 0), .int (nI b), .float dx, .float dy, .float dz] G S (bI (!(moF (mFS S 4) (mFS S 2) b))) (moM S b dx dy dz) := by
  refine ent (cc := cX4_moves) (maxL := 7) (ret := (some .boolean)) (by decide) rfl (Nat.le_of_ble_eq_true rfl) ?_
  intro p e s m below meth c ls C hw hT hS hl
  obtain ⟨hx, hb, hr, hml, hown, hts, hlk⟩ := C
  have hl : lv_has ls 7 [(0, .ref (g_ad G 9 0)), (1, .int (nI b)), (2, .float dx), (3, .float dy), (4, .float dz)] := hl
  refine lv_iconst (v := nI 1) hx hb dX4_moves_0 (by decide) ?_
  refine lv_istore (lv' := [(5, .int (nI 1)), (0, .ref (g_ad G 9 0)), (1, .int (nI b)), (2, .float dx), (3, .float dy), (4, .float dz)]) hx hb dX4_moves_1 hl (by decide) rfl (fun ls hl => ?_)
  refine lv_iconst (v := nI 0) hx hb dX4_moves_3 (by decide) ?_
  refine lv_istore (lv' := [(6, .int (nI 0)), (5, .int (nI 1)), (0, .ref (g_ad G 9 0)), (1, .int (nI b)), (2, .float dx), (3, .float dy), (4, .float dz)]) hx hb dX4_moves_4 hl (by decide) rfl (fun ls hl => ?_)
  refine lv_iload hx hb dX4_moves_6 (lv_at hl 0 rfl) ?_
  refine lv_iconst (v := nI 3) hx hb dX4_moves_8 (by decide) ?_
  refine lv_icmp_ge (tgt := 80) hx hb dX4_moves_9 (by decide) (fun q => absurd q (by decide)) (fun _ => ?_)
  have K2 : ∀ (b9 : Bool) (H : Heap) (locs : List Loc), b9 = (fGe (mFS S 4 0) (mFS S 2 (6 * b + 0)) && fLe (mFS S 4 3) (mFS S 2 (6 * b + 3 + 0))) → wdM G S H s → va_S (g_A G) s.heap H locs → W p l e ({ frames := 2, cells := 0, slots := 0, locals := 50 } : Room) s m ([.ref (g_ad G 9 0), .int (nI b), .float dx, .float dy, .float dz] : List Value).toArray below meth c H locs 0 0 (MQ below (Qi G (bI (!(moF (mFS S 4) (mFS S 2) b))) (moM S b dx dy dz)) ([.ref (g_ad G 9 0), .int (nI b), .float dx, .float dy, .float dz] : List Value).toArray s ({ frames := 2, cells := 0, slots := 0, locals := 50 } : Room).cells ({ frames := 2, cells := 0, slots := 0, locals := 50 } : Room).slots (g_A G)) (F0 m 72 ls [.int (bI b9)]) := by
    intro b9 H locs hb9 hw hS
    subst hb9
    refine lv_istore (lv' := [(5, .int (bI (fGe (mFS S 4 0) (mFS S 2 (6 * b + 0)) && fLe (mFS S 4 3) (mFS S 2 (6 * b + 3 + 0))))), (6, .int (nI 0)), (0, .ref (g_ad G 9 0)), (1, .int (nI b)), (2, .float dx), (3, .float dy), (4, .float dz)]) hx hb dX4_moves_72 hl (by decide) rfl (fun ls hl => ?_)
    refine lv_iinc (v := nI 1) (lv' := [(6, .int (nI 1)), (5, .int (bI (fGe (mFS S 4 0) (mFS S 2 (6 * b + 0)) && fLe (mFS S 4 3) (mFS S 2 (6 * b + 3 + 0))))), (0, .ref (g_ad G 9 0)), (1, .int (nI b)), (2, .float dx), (3, .float dy), (4, .float dz)]) hx hb dX4_moves_74 hl (k := 1) rfl (by decide) (by decide) rfl (fun ls hl => ?_)
    refine lv_goto (tgt := 6) hx hb dX4_moves_77 (by decide) ?_
    refine lv_iload hx hb dX4_moves_6 (lv_at hl 0 rfl) ?_
    refine lv_iconst (v := nI 3) hx hb dX4_moves_8 (by decide) ?_
    refine lv_icmp_ge (tgt := 80) hx hb dX4_moves_9 (by decide) (fun q => absurd q (by decide)) (fun _ => ?_)
    have K4 : ∀ (b9 : Bool) (H : Heap) (locs : List Loc), b9 = ((fGe (mFS S 4 0) (mFS S 2 (6 * b + 0)) && fLe (mFS S 4 3) (mFS S 2 (6 * b + 3 + 0))) && (fGe (mFS S 4 1) (mFS S 2 (6 * b + 1)) && fLe (mFS S 4 4) (mFS S 2 (6 * b + 3 + 1)))) → wdM G S H s → va_S (g_A G) s.heap H locs → W p l e ({ frames := 2, cells := 0, slots := 0, locals := 50 } : Room) s m ([.ref (g_ad G 9 0), .int (nI b), .float dx, .float dy, .float dz] : List Value).toArray below meth c H locs 0 0 (MQ below (Qi G (bI (!(moF (mFS S 4) (mFS S 2) b))) (moM S b dx dy dz)) ([.ref (g_ad G 9 0), .int (nI b), .float dx, .float dy, .float dz] : List Value).toArray s ({ frames := 2, cells := 0, slots := 0, locals := 50 } : Room).cells ({ frames := 2, cells := 0, slots := 0, locals := 50 } : Room).slots (g_A G)) (F0 m 72 ls [.int (bI b9)]) := by
      intro b9 H locs hb9 hw hS
      subst hb9
      refine lv_istore (lv' := [(5, .int (bI ((fGe (mFS S 4 0) (mFS S 2 (6 * b + 0)) && fLe (mFS S 4 3) (mFS S 2 (6 * b + 3 + 0))) && (fGe (mFS S 4 1) (mFS S 2 (6 * b + 1)) && fLe (mFS S 4 4) (mFS S 2 (6 * b + 3 + 1)))))), (6, .int (nI 1)), (0, .ref (g_ad G 9 0)), (1, .int (nI b)), (2, .float dx), (3, .float dy), (4, .float dz)]) hx hb dX4_moves_72 hl (by decide) rfl (fun ls hl => ?_)
      refine lv_iinc (v := nI 2) (lv' := [(6, .int (nI 2)), (5, .int (bI ((fGe (mFS S 4 0) (mFS S 2 (6 * b + 0)) && fLe (mFS S 4 3) (mFS S 2 (6 * b + 3 + 0))) && (fGe (mFS S 4 1) (mFS S 2 (6 * b + 1)) && fLe (mFS S 4 4) (mFS S 2 (6 * b + 3 + 1)))))), (0, .ref (g_ad G 9 0)), (1, .int (nI b)), (2, .float dx), (3, .float dy), (4, .float dz)]) hx hb dX4_moves_74 hl (k := 1) rfl (by decide) (by decide) rfl (fun ls hl => ?_)
      refine lv_goto (tgt := 6) hx hb dX4_moves_77 (by decide) ?_
      refine lv_iload hx hb dX4_moves_6 (lv_at hl 0 rfl) ?_
      refine lv_iconst (v := nI 3) hx hb dX4_moves_8 (by decide) ?_
      refine lv_icmp_ge (tgt := 80) hx hb dX4_moves_9 (by decide) (fun q => absurd q (by decide)) (fun _ => ?_)
      have K6 : ∀ (b9 : Bool) (H : Heap) (locs : List Loc), b9 = (((fGe (mFS S 4 0) (mFS S 2 (6 * b + 0)) && fLe (mFS S 4 3) (mFS S 2 (6 * b + 3 + 0))) && (fGe (mFS S 4 1) (mFS S 2 (6 * b + 1)) && fLe (mFS S 4 4) (mFS S 2 (6 * b + 3 + 1)))) && (fGe (mFS S 4 2) (mFS S 2 (6 * b + 2)) && fLe (mFS S 4 5) (mFS S 2 (6 * b + 3 + 2)))) → wdM G S H s → va_S (g_A G) s.heap H locs → W p l e ({ frames := 2, cells := 0, slots := 0, locals := 50 } : Room) s m ([.ref (g_ad G 9 0), .int (nI b), .float dx, .float dy, .float dz] : List Value).toArray below meth c H locs 0 0 (MQ below (Qi G (bI (!(moF (mFS S 4) (mFS S 2) b))) (moM S b dx dy dz)) ([.ref (g_ad G 9 0), .int (nI b), .float dx, .float dy, .float dz] : List Value).toArray s ({ frames := 2, cells := 0, slots := 0, locals := 50 } : Room).cells ({ frames := 2, cells := 0, slots := 0, locals := 50 } : Room).slots (g_A G)) (F0 m 72 ls [.int (bI b9)]) := by
        intro b9 H locs hb9 hw hS
        subst hb9
        refine lv_istore (lv' := [(5, .int (bI (((fGe (mFS S 4 0) (mFS S 2 (6 * b + 0)) && fLe (mFS S 4 3) (mFS S 2 (6 * b + 3 + 0))) && (fGe (mFS S 4 1) (mFS S 2 (6 * b + 1)) && fLe (mFS S 4 4) (mFS S 2 (6 * b + 3 + 1)))) && (fGe (mFS S 4 2) (mFS S 2 (6 * b + 2)) && fLe (mFS S 4 5) (mFS S 2 (6 * b + 3 + 2)))))), (6, .int (nI 2)), (0, .ref (g_ad G 9 0)), (1, .int (nI b)), (2, .float dx), (3, .float dy), (4, .float dz)]) hx hb dX4_moves_72 hl (by decide) rfl (fun ls hl => ?_)
        refine lv_iinc (v := nI 3) (lv' := [(6, .int (nI 3)), (5, .int (bI (((fGe (mFS S 4 0) (mFS S 2 (6 * b + 0)) && fLe (mFS S 4 3) (mFS S 2 (6 * b + 3 + 0))) && (fGe (mFS S 4 1) (mFS S 2 (6 * b + 1)) && fLe (mFS S 4 4) (mFS S 2 (6 * b + 3 + 1)))) && (fGe (mFS S 4 2) (mFS S 2 (6 * b + 2)) && fLe (mFS S 4 5) (mFS S 2 (6 * b + 3 + 2)))))), (0, .ref (g_ad G 9 0)), (1, .int (nI b)), (2, .float dx), (3, .float dy), (4, .float dz)]) hx hb dX4_moves_74 hl (k := 1) rfl (by decide) (by decide) rfl (fun ls hl => ?_)
        refine lv_goto (tgt := 6) hx hb dX4_moves_77 (by decide) ?_
        refine lv_iload hx hb dX4_moves_6 (lv_at hl 0 rfl) ?_
        refine lv_iconst (v := nI 3) hx hb dX4_moves_8 (by decide) ?_
        refine lv_icmp_ge (tgt := 80) hx hb dX4_moves_9 (by decide) (fun _ => ?_) (fun q => absurd (by decide) q)
        refine lv_iload hx hb dX4_moves_80 (lv_at hl 1 rfl) ?_
        refine lv_if_ne (tgt := 94) hx hb dX4_moves_82 (by decide) (fun h8 => ?_) (fun h8 => ?_)
        · skip
          have h8 := bI_n0.mp h8
          refine lv_iconst (v := nI 0) hx hb dX4_moves_94 (by decide) ?_
          refine lv_istore (lv' := [(6, .int (nI 0)), (5, .int (bI (((fGe (mFS S 4 0) (mFS S 2 (6 * b + 0)) && fLe (mFS S 4 3) (mFS S 2 (6 * b + 3 + 0))) && (fGe (mFS S 4 1) (mFS S 2 (6 * b + 1)) && fLe (mFS S 4 4) (mFS S 2 (6 * b + 3 + 1)))) && (fGe (mFS S 4 2) (mFS S 2 (6 * b + 2)) && fLe (mFS S 4 5) (mFS S 2 (6 * b + 3 + 2)))))), (0, .ref (g_ad G 9 0)), (1, .int (nI b)), (2, .float dx), (3, .float dy), (4, .float dz)]) hx hb dX4_moves_95 hl (by decide) rfl (fun ls hl => ?_)
          refine lv_iload hx hb dX4_moves_97 (lv_at hl 0 rfl) ?_
          refine lv_bipush (v := nI 6) hx hb dX4_moves_99 (by decide) ?_
          refine lv_icmp_ge (tgt := 129) hx hb dX4_moves_101 (by decide) (fun q => absurd q (by decide)) (fun _ => ?_)
          refine lv_aload_n hx hb dX4_moves_104 rfl (lv_at hl 2 rfl) ?_
          refine gf hx hb hown hts hw hT 9 0 (by decide) (ci := 4) rfl rfl (fun _ h => List.mem_cons_of_mem _ (List.mem_append_right _ h)) 6 (by decide) (List.mem_of_getElem? (i := 3) rfl) (v := .ref (g_ad G 10 1)) rfl dX4_moves_105 ?_
          refine lv_bipush (v := nI 6) hx hb dX4_moves_108 (by decide) ?_
          refine lv_iload_n hx hb dX4_moves_110 rfl (lv_at hl 3 rfl) ?_
          refine lv_imul hx hb dX4_moves_111 ?_
          refine top_i (y := nI (6 * b)) (pk_mul 6 b) ?_
          refine lv_iload hx hb dX4_moves_112 (lv_at hl 0 rfl) ?_
          refine lv_iadd hx hb dX4_moves_114 ?_
          refine top_i (y := nI (6 * b + 0)) (nI_add (6 * b) 0) ?_
          refine lv_aload_n hx hb dX4_moves_115 rfl (lv_at hl 2 rfl) ?_
          refine gf hx hb hown hts hw hT 9 0 (by decide) (ci := 4) rfl rfl (fun _ h => List.mem_cons_of_mem _ (List.mem_append_right _ h)) 16 (by decide) (List.mem_of_getElem? (i := 1) rfl) (v := .ref (g_ad G 10 4)) rfl dX4_moves_116 ?_
          refine lv_iload hx hb dX4_moves_119 (lv_at hl 0 rfl) ?_
          refine afl hx hb hw hT 10 4 (by decide) (f := mFS S 4) rfl 0 (by decide) (by decide) dX4_moves_121 ?_
          refine afs (S' := (mFU S (va_up (mFS S) 1 (va_up (mFS S 1) (6 * b + 0) (mFS S 4 0))))) hx hb hw hT hS 10 1 (by decide) (f := mFS S 1) rfl (6 * b + 0) (show 6 * b + 0 < 3072 by omega) (by decide) (mup_mF G S 1 (va_up (mFS S 1) (6 * b + 0) (mFS S 4 0))) dX4_moves_122 (fun H locs hw hS => ?_)
          refine lv_iinc (v := nI 1) (lv' := [(6, .int (nI 1)), (5, .int (bI (((fGe (mFS S 4 0) (mFS S 2 (6 * b + 0)) && fLe (mFS S 4 3) (mFS S 2 (6 * b + 3 + 0))) && (fGe (mFS S 4 1) (mFS S 2 (6 * b + 1)) && fLe (mFS S 4 4) (mFS S 2 (6 * b + 3 + 1)))) && (fGe (mFS S 4 2) (mFS S 2 (6 * b + 2)) && fLe (mFS S 4 5) (mFS S 2 (6 * b + 3 + 2)))))), (0, .ref (g_ad G 9 0)), (1, .int (nI b)), (2, .float dx), (3, .float dy), (4, .float dz)]) hx hb dX4_moves_123 hl (k := 0) rfl (by decide) (by decide) rfl (fun ls hl => ?_)
          refine lv_goto (tgt := 97) hx hb dX4_moves_126 (by decide) ?_
          refine lv_iload hx hb dX4_moves_97 (lv_at hl 0 rfl) ?_
          refine lv_bipush (v := nI 6) hx hb dX4_moves_99 (by decide) ?_
          refine lv_icmp_ge (tgt := 129) hx hb dX4_moves_101 (by decide) (fun q => absurd q (by decide)) (fun _ => ?_)
          refine lv_aload_n hx hb dX4_moves_104 rfl (lv_at hl 2 rfl) ?_
          refine gf hx hb hown hts hw hT 9 0 (by decide) (ci := 4) rfl rfl (fun _ h => List.mem_cons_of_mem _ (List.mem_append_right _ h)) 6 (by decide) (List.mem_of_getElem? (i := 3) rfl) (v := .ref (g_ad G 10 1)) rfl dX4_moves_105 ?_
          refine lv_bipush (v := nI 6) hx hb dX4_moves_108 (by decide) ?_
          refine lv_iload_n hx hb dX4_moves_110 rfl (lv_at hl 3 rfl) ?_
          refine lv_imul hx hb dX4_moves_111 ?_
          refine top_i (y := nI (6 * b)) (pk_mul 6 b) ?_
          refine lv_iload hx hb dX4_moves_112 (lv_at hl 0 rfl) ?_
          refine lv_iadd hx hb dX4_moves_114 ?_
          refine top_i (y := nI (6 * b + 1)) (nI_add (6 * b) 1) ?_
          refine lv_aload_n hx hb dX4_moves_115 rfl (lv_at hl 2 rfl) ?_
          refine gf hx hb hown hts hw hT 9 0 (by decide) (ci := 4) rfl rfl (fun _ h => List.mem_cons_of_mem _ (List.mem_append_right _ h)) 16 (by decide) (List.mem_of_getElem? (i := 1) rfl) (v := .ref (g_ad G 10 4)) rfl dX4_moves_116 ?_
          refine lv_iload hx hb dX4_moves_119 (lv_at hl 0 rfl) ?_
          refine afl hx hb hw hT 10 4 (by decide) (f := mFS S 4) rfl 1 (by decide) (by decide) dX4_moves_121 ?_
          refine afs (S' := (mFU S (va_up (mFS S) 1 (va_up (va_up (mFS S 1) (6 * b + 0) (mFS S 4 0)) (6 * b + 1) (mFS S 4 1))))) hx hb hw hT hS 10 1 (by decide) (f := va_up (mFS S 1) (6 * b + 0) (mFS S 4 0)) rfl (6 * b + 1) (show 6 * b + 1 < 3072 by omega) (by decide) (mup2_mF G S 1 _ (va_up (va_up (mFS S 1) (6 * b + 0) (mFS S 4 0)) (6 * b + 1) (mFS S 4 1))) dX4_moves_122 (fun H locs hw hS => ?_)
          refine lv_iinc (v := nI 2) (lv' := [(6, .int (nI 2)), (5, .int (bI (((fGe (mFS S 4 0) (mFS S 2 (6 * b + 0)) && fLe (mFS S 4 3) (mFS S 2 (6 * b + 3 + 0))) && (fGe (mFS S 4 1) (mFS S 2 (6 * b + 1)) && fLe (mFS S 4 4) (mFS S 2 (6 * b + 3 + 1)))) && (fGe (mFS S 4 2) (mFS S 2 (6 * b + 2)) && fLe (mFS S 4 5) (mFS S 2 (6 * b + 3 + 2)))))), (0, .ref (g_ad G 9 0)), (1, .int (nI b)), (2, .float dx), (3, .float dy), (4, .float dz)]) hx hb dX4_moves_123 hl (k := 0) rfl (by decide) (by decide) rfl (fun ls hl => ?_)
          refine lv_goto (tgt := 97) hx hb dX4_moves_126 (by decide) ?_
          refine lv_iload hx hb dX4_moves_97 (lv_at hl 0 rfl) ?_
          refine lv_bipush (v := nI 6) hx hb dX4_moves_99 (by decide) ?_
          refine lv_icmp_ge (tgt := 129) hx hb dX4_moves_101 (by decide) (fun q => absurd q (by decide)) (fun _ => ?_)
          refine lv_aload_n hx hb dX4_moves_104 rfl (lv_at hl 2 rfl) ?_
          refine gf hx hb hown hts hw hT 9 0 (by decide) (ci := 4) rfl rfl (fun _ h => List.mem_cons_of_mem _ (List.mem_append_right _ h)) 6 (by decide) (List.mem_of_getElem? (i := 3) rfl) (v := .ref (g_ad G 10 1)) rfl dX4_moves_105 ?_
          refine lv_bipush (v := nI 6) hx hb dX4_moves_108 (by decide) ?_
          refine lv_iload_n hx hb dX4_moves_110 rfl (lv_at hl 3 rfl) ?_
          refine lv_imul hx hb dX4_moves_111 ?_
          refine top_i (y := nI (6 * b)) (pk_mul 6 b) ?_
          refine lv_iload hx hb dX4_moves_112 (lv_at hl 0 rfl) ?_
          refine lv_iadd hx hb dX4_moves_114 ?_
          refine top_i (y := nI (6 * b + 2)) (nI_add (6 * b) 2) ?_
          refine lv_aload_n hx hb dX4_moves_115 rfl (lv_at hl 2 rfl) ?_
          refine gf hx hb hown hts hw hT 9 0 (by decide) (ci := 4) rfl rfl (fun _ h => List.mem_cons_of_mem _ (List.mem_append_right _ h)) 16 (by decide) (List.mem_of_getElem? (i := 1) rfl) (v := .ref (g_ad G 10 4)) rfl dX4_moves_116 ?_
          refine lv_iload hx hb dX4_moves_119 (lv_at hl 0 rfl) ?_
          refine afl hx hb hw hT 10 4 (by decide) (f := mFS S 4) rfl 2 (by decide) (by decide) dX4_moves_121 ?_
          refine afs (S' := (mFU S (va_up (mFS S) 1 (va_up (va_up (va_up (mFS S 1) (6 * b + 0) (mFS S 4 0)) (6 * b + 1) (mFS S 4 1)) (6 * b + 2) (mFS S 4 2))))) hx hb hw hT hS 10 1 (by decide) (f := va_up (va_up (mFS S 1) (6 * b + 0) (mFS S 4 0)) (6 * b + 1) (mFS S 4 1)) rfl (6 * b + 2) (show 6 * b + 2 < 3072 by omega) (by decide) (mup2_mF G S 1 _ (va_up (va_up (va_up (mFS S 1) (6 * b + 0) (mFS S 4 0)) (6 * b + 1) (mFS S 4 1)) (6 * b + 2) (mFS S 4 2))) dX4_moves_122 (fun H locs hw hS => ?_)
          refine lv_iinc (v := nI 3) (lv' := [(6, .int (nI 3)), (5, .int (bI (((fGe (mFS S 4 0) (mFS S 2 (6 * b + 0)) && fLe (mFS S 4 3) (mFS S 2 (6 * b + 3 + 0))) && (fGe (mFS S 4 1) (mFS S 2 (6 * b + 1)) && fLe (mFS S 4 4) (mFS S 2 (6 * b + 3 + 1)))) && (fGe (mFS S 4 2) (mFS S 2 (6 * b + 2)) && fLe (mFS S 4 5) (mFS S 2 (6 * b + 3 + 2)))))), (0, .ref (g_ad G 9 0)), (1, .int (nI b)), (2, .float dx), (3, .float dy), (4, .float dz)]) hx hb dX4_moves_123 hl (k := 0) rfl (by decide) (by decide) rfl (fun ls hl => ?_)
          refine lv_goto (tgt := 97) hx hb dX4_moves_126 (by decide) ?_
          refine lv_iload hx hb dX4_moves_97 (lv_at hl 0 rfl) ?_
          refine lv_bipush (v := nI 6) hx hb dX4_moves_99 (by decide) ?_
          refine lv_icmp_ge (tgt := 129) hx hb dX4_moves_101 (by decide) (fun q => absurd q (by decide)) (fun _ => ?_)
          refine lv_aload_n hx hb dX4_moves_104 rfl (lv_at hl 2 rfl) ?_
          refine gf hx hb hown hts hw hT 9 0 (by decide) (ci := 4) rfl rfl (fun _ h => List.mem_cons_of_mem _ (List.mem_append_right _ h)) 6 (by decide) (List.mem_of_getElem? (i := 3) rfl) (v := .ref (g_ad G 10 1)) rfl dX4_moves_105 ?_
          refine lv_bipush (v := nI 6) hx hb dX4_moves_108 (by decide) ?_
          refine lv_iload_n hx hb dX4_moves_110 rfl (lv_at hl 3 rfl) ?_
          refine lv_imul hx hb dX4_moves_111 ?_
          refine top_i (y := nI (6 * b)) (pk_mul 6 b) ?_
          refine lv_iload hx hb dX4_moves_112 (lv_at hl 0 rfl) ?_
          refine lv_iadd hx hb dX4_moves_114 ?_
          refine top_i (y := nI (6 * b + 3)) (nI_add (6 * b) 3) ?_
          refine lv_aload_n hx hb dX4_moves_115 rfl (lv_at hl 2 rfl) ?_
          refine gf hx hb hown hts hw hT 9 0 (by decide) (ci := 4) rfl rfl (fun _ h => List.mem_cons_of_mem _ (List.mem_append_right _ h)) 16 (by decide) (List.mem_of_getElem? (i := 1) rfl) (v := .ref (g_ad G 10 4)) rfl dX4_moves_116 ?_
          refine lv_iload hx hb dX4_moves_119 (lv_at hl 0 rfl) ?_
          refine afl hx hb hw hT 10 4 (by decide) (f := mFS S 4) rfl 3 (by decide) (by decide) dX4_moves_121 ?_
          refine afs (S' := (mFU S (va_up (mFS S) 1 (va_up (va_up (va_up (va_up (mFS S 1) (6 * b + 0) (mFS S 4 0)) (6 * b + 1) (mFS S 4 1)) (6 * b + 2) (mFS S 4 2)) (6 * b + 3) (mFS S 4 3))))) hx hb hw hT hS 10 1 (by decide) (f := va_up (va_up (va_up (mFS S 1) (6 * b + 0) (mFS S 4 0)) (6 * b + 1) (mFS S 4 1)) (6 * b + 2) (mFS S 4 2)) rfl (6 * b + 3) (show 6 * b + 3 < 3072 by omega) (by decide) (mup2_mF G S 1 _ (va_up (va_up (va_up (va_up (mFS S 1) (6 * b + 0) (mFS S 4 0)) (6 * b + 1) (mFS S 4 1)) (6 * b + 2) (mFS S 4 2)) (6 * b + 3) (mFS S 4 3))) dX4_moves_122 (fun H locs hw hS => ?_)
          refine lv_iinc (v := nI 4) (lv' := [(6, .int (nI 4)), (5, .int (bI (((fGe (mFS S 4 0) (mFS S 2 (6 * b + 0)) && fLe (mFS S 4 3) (mFS S 2 (6 * b + 3 + 0))) && (fGe (mFS S 4 1) (mFS S 2 (6 * b + 1)) && fLe (mFS S 4 4) (mFS S 2 (6 * b + 3 + 1)))) && (fGe (mFS S 4 2) (mFS S 2 (6 * b + 2)) && fLe (mFS S 4 5) (mFS S 2 (6 * b + 3 + 2)))))), (0, .ref (g_ad G 9 0)), (1, .int (nI b)), (2, .float dx), (3, .float dy), (4, .float dz)]) hx hb dX4_moves_123 hl (k := 0) rfl (by decide) (by decide) rfl (fun ls hl => ?_)
          refine lv_goto (tgt := 97) hx hb dX4_moves_126 (by decide) ?_
          refine lv_iload hx hb dX4_moves_97 (lv_at hl 0 rfl) ?_
          refine lv_bipush (v := nI 6) hx hb dX4_moves_99 (by decide) ?_
          refine lv_icmp_ge (tgt := 129) hx hb dX4_moves_101 (by decide) (fun q => absurd q (by decide)) (fun _ => ?_)
          refine lv_aload_n hx hb dX4_moves_104 rfl (lv_at hl 2 rfl) ?_
          refine gf hx hb hown hts hw hT 9 0 (by decide) (ci := 4) rfl rfl (fun _ h => List.mem_cons_of_mem _ (List.mem_append_right _ h)) 6 (by decide) (List.mem_of_getElem? (i := 3) rfl) (v := .ref (g_ad G 10 1)) rfl dX4_moves_105 ?_
          refine lv_bipush (v := nI 6) hx hb dX4_moves_108 (by decide) ?_
          refine lv_iload_n hx hb dX4_moves_110 rfl (lv_at hl 3 rfl) ?_
          refine lv_imul hx hb dX4_moves_111 ?_
          refine top_i (y := nI (6 * b)) (pk_mul 6 b) ?_
          refine lv_iload hx hb dX4_moves_112 (lv_at hl 0 rfl) ?_
          refine lv_iadd hx hb dX4_moves_114 ?_
          refine top_i (y := nI (6 * b + 4)) (nI_add (6 * b) 4) ?_
          refine lv_aload_n hx hb dX4_moves_115 rfl (lv_at hl 2 rfl) ?_
          refine gf hx hb hown hts hw hT 9 0 (by decide) (ci := 4) rfl rfl (fun _ h => List.mem_cons_of_mem _ (List.mem_append_right _ h)) 16 (by decide) (List.mem_of_getElem? (i := 1) rfl) (v := .ref (g_ad G 10 4)) rfl dX4_moves_116 ?_
          refine lv_iload hx hb dX4_moves_119 (lv_at hl 0 rfl) ?_
          refine afl hx hb hw hT 10 4 (by decide) (f := mFS S 4) rfl 4 (by decide) (by decide) dX4_moves_121 ?_
          refine afs (S' := (mFU S (va_up (mFS S) 1 (va_up (va_up (va_up (va_up (va_up (mFS S 1) (6 * b + 0) (mFS S 4 0)) (6 * b + 1) (mFS S 4 1)) (6 * b + 2) (mFS S 4 2)) (6 * b + 3) (mFS S 4 3)) (6 * b + 4) (mFS S 4 4))))) hx hb hw hT hS 10 1 (by decide) (f := va_up (va_up (va_up (va_up (mFS S 1) (6 * b + 0) (mFS S 4 0)) (6 * b + 1) (mFS S 4 1)) (6 * b + 2) (mFS S 4 2)) (6 * b + 3) (mFS S 4 3)) rfl (6 * b + 4) (show 6 * b + 4 < 3072 by omega) (by decide) (mup2_mF G S 1 _ (va_up (va_up (va_up (va_up (va_up (mFS S 1) (6 * b + 0) (mFS S 4 0)) (6 * b + 1) (mFS S 4 1)) (6 * b + 2) (mFS S 4 2)) (6 * b + 3) (mFS S 4 3)) (6 * b + 4) (mFS S 4 4))) dX4_moves_122 (fun H locs hw hS => ?_)
          refine lv_iinc (v := nI 5) (lv' := [(6, .int (nI 5)), (5, .int (bI (((fGe (mFS S 4 0) (mFS S 2 (6 * b + 0)) && fLe (mFS S 4 3) (mFS S 2 (6 * b + 3 + 0))) && (fGe (mFS S 4 1) (mFS S 2 (6 * b + 1)) && fLe (mFS S 4 4) (mFS S 2 (6 * b + 3 + 1)))) && (fGe (mFS S 4 2) (mFS S 2 (6 * b + 2)) && fLe (mFS S 4 5) (mFS S 2 (6 * b + 3 + 2)))))), (0, .ref (g_ad G 9 0)), (1, .int (nI b)), (2, .float dx), (3, .float dy), (4, .float dz)]) hx hb dX4_moves_123 hl (k := 0) rfl (by decide) (by decide) rfl (fun ls hl => ?_)
          refine lv_goto (tgt := 97) hx hb dX4_moves_126 (by decide) ?_
          refine lv_iload hx hb dX4_moves_97 (lv_at hl 0 rfl) ?_
          refine lv_bipush (v := nI 6) hx hb dX4_moves_99 (by decide) ?_
          refine lv_icmp_ge (tgt := 129) hx hb dX4_moves_101 (by decide) (fun q => absurd q (by decide)) (fun _ => ?_)
          refine lv_aload_n hx hb dX4_moves_104 rfl (lv_at hl 2 rfl) ?_
          refine gf hx hb hown hts hw hT 9 0 (by decide) (ci := 4) rfl rfl (fun _ h => List.mem_cons_of_mem _ (List.mem_append_right _ h)) 6 (by decide) (List.mem_of_getElem? (i := 3) rfl) (v := .ref (g_ad G 10 1)) rfl dX4_moves_105 ?_
          refine lv_bipush (v := nI 6) hx hb dX4_moves_108 (by decide) ?_
          refine lv_iload_n hx hb dX4_moves_110 rfl (lv_at hl 3 rfl) ?_
          refine lv_imul hx hb dX4_moves_111 ?_
          refine top_i (y := nI (6 * b)) (pk_mul 6 b) ?_
          refine lv_iload hx hb dX4_moves_112 (lv_at hl 0 rfl) ?_
          refine lv_iadd hx hb dX4_moves_114 ?_
          refine top_i (y := nI (6 * b + 5)) (nI_add (6 * b) 5) ?_
          refine lv_aload_n hx hb dX4_moves_115 rfl (lv_at hl 2 rfl) ?_
          refine gf hx hb hown hts hw hT 9 0 (by decide) (ci := 4) rfl rfl (fun _ h => List.mem_cons_of_mem _ (List.mem_append_right _ h)) 16 (by decide) (List.mem_of_getElem? (i := 1) rfl) (v := .ref (g_ad G 10 4)) rfl dX4_moves_116 ?_
          refine lv_iload hx hb dX4_moves_119 (lv_at hl 0 rfl) ?_
          refine afl hx hb hw hT 10 4 (by decide) (f := mFS S 4) rfl 5 (by decide) (by decide) dX4_moves_121 ?_
          refine afs (S' := (mFU S (va_up (mFS S) 1 (va_up (va_up (va_up (va_up (va_up (va_up (mFS S 1) (6 * b + 0) (mFS S 4 0)) (6 * b + 1) (mFS S 4 1)) (6 * b + 2) (mFS S 4 2)) (6 * b + 3) (mFS S 4 3)) (6 * b + 4) (mFS S 4 4)) (6 * b + 5) (mFS S 4 5))))) hx hb hw hT hS 10 1 (by decide) (f := va_up (va_up (va_up (va_up (va_up (mFS S 1) (6 * b + 0) (mFS S 4 0)) (6 * b + 1) (mFS S 4 1)) (6 * b + 2) (mFS S 4 2)) (6 * b + 3) (mFS S 4 3)) (6 * b + 4) (mFS S 4 4)) rfl (6 * b + 5) (show 6 * b + 5 < 3072 by omega) (by decide) (mup2_mF G S 1 _ (va_up (va_up (va_up (va_up (va_up (va_up (mFS S 1) (6 * b + 0) (mFS S 4 0)) (6 * b + 1) (mFS S 4 1)) (6 * b + 2) (mFS S 4 2)) (6 * b + 3) (mFS S 4 3)) (6 * b + 4) (mFS S 4 4)) (6 * b + 5) (mFS S 4 5))) dX4_moves_122 (fun H locs hw hS => ?_)
          refine lv_iinc (v := nI 6) (lv' := [(6, .int (nI 6)), (5, .int (bI (((fGe (mFS S 4 0) (mFS S 2 (6 * b + 0)) && fLe (mFS S 4 3) (mFS S 2 (6 * b + 3 + 0))) && (fGe (mFS S 4 1) (mFS S 2 (6 * b + 1)) && fLe (mFS S 4 4) (mFS S 2 (6 * b + 3 + 1)))) && (fGe (mFS S 4 2) (mFS S 2 (6 * b + 2)) && fLe (mFS S 4 5) (mFS S 2 (6 * b + 3 + 2)))))), (0, .ref (g_ad G 9 0)), (1, .int (nI b)), (2, .float dx), (3, .float dy), (4, .float dz)]) hx hb dX4_moves_123 hl (k := 0) rfl (by decide) (by decide) rfl (fun ls hl => ?_)
          refine lv_goto (tgt := 97) hx hb dX4_moves_126 (by decide) ?_
          refine lv_iload hx hb dX4_moves_97 (lv_at hl 0 rfl) ?_
          refine lv_bipush (v := nI 6) hx hb dX4_moves_99 (by decide) ?_
          refine lv_icmp_ge (tgt := 129) hx hb dX4_moves_101 (by decide) (fun _ => ?_) (fun q => absurd (by decide) q)
          have hw : wdM G (tgS S b) H s := hw
          refine lv_iload hx hb dX4_moves_129 (lv_at hl 1 rfl) ?_
          refine lv_if_ne (tgt := 138) hx hb dX4_moves_131 (by decide) (fun _ => ?_) (fun q => absurd q (bI_n0.mpr h8))
          refine lv_iconst (v := nI 0) hx hb dX4_moves_138 (by decide) ?_
          refine top_i (y := bI false) (by decide) ?_
          exact ri hx hb hlk hr (by unfold moM; rw [if_pos (by unfold moF; exact h8)]; exact hw) hS (congrArg bI (by unfold moF; rw [h8]; rfl)) (bI_nar _) (Nat.le_of_ble_eq_true rfl) (Nat.le_of_ble_eq_true rfl) dX4_moves_139
        · skip
          have h8 := bI_0.mp h8
          refine lv_aload_n hx hb dX4_moves_85 rfl (lv_at hl 2 rfl) ?_
          refine lv_iload_n hx hb dX4_moves_86 rfl (lv_at hl 3 rfl) ?_
          refine lv_fload_n hx hb dX4_moves_87 rfl (lv_at hl 4 rfl) ?_
          refine lv_fload_n hx hb dX4_moves_88 rfl (lv_at hl 5 rfl) ?_
          refine lv_fload hx hb dX4_moves_89 (lv_at hl 6 rfl) ?_
          refine cVv ⟨hx, hb, hml, hown, hts⟩ (m_settle l G S b (by omega) dx dy dz hn) (cwV 4 hts gX4_moves_X4_settle rfl rfl rfl (by decide +kernel) ⟨(Nat.le_of_ble_eq_true rfl), (Nat.le_of_ble_eq_true rfl)⟩) hw hT hS (rcv hw hT 9 0 (by decide) rfl rfl) (As := [.int (nI b), .float dx, .float dy, .float dz]) (rest := []) rfl hl.1 rfl (Nat.le_of_ble_eq_true rfl) dX4_moves_91 ⟨(Nat.le_of_ble_eq_true rfl), (Nat.le_of_ble_eq_true rfl)⟩ (fun H locs hw hS => ?_)
          obtain ⟨X9, hX9⟩ : ∃ z, z = seS S b dx dy dz := ⟨_, rfl⟩
          rw [← hX9] at hw
          refine lv_iconst (v := nI 0) hx hb dX4_moves_94 (by decide) ?_
          refine lv_istore (lv' := [(6, .int (nI 0)), (5, .int (bI (((fGe (mFS S 4 0) (mFS S 2 (6 * b + 0)) && fLe (mFS S 4 3) (mFS S 2 (6 * b + 3 + 0))) && (fGe (mFS S 4 1) (mFS S 2 (6 * b + 1)) && fLe (mFS S 4 4) (mFS S 2 (6 * b + 3 + 1)))) && (fGe (mFS S 4 2) (mFS S 2 (6 * b + 2)) && fLe (mFS S 4 5) (mFS S 2 (6 * b + 3 + 2)))))), (0, .ref (g_ad G 9 0)), (1, .int (nI b)), (2, .float dx), (3, .float dy), (4, .float dz)]) hx hb dX4_moves_95 hl (by decide) rfl (fun ls hl => ?_)
          refine lv_iload hx hb dX4_moves_97 (lv_at hl 0 rfl) ?_
          refine lv_bipush (v := nI 6) hx hb dX4_moves_99 (by decide) ?_
          refine lv_icmp_ge (tgt := 129) hx hb dX4_moves_101 (by decide) (fun q => absurd q (by decide)) (fun _ => ?_)
          refine lv_aload_n hx hb dX4_moves_104 rfl (lv_at hl 2 rfl) ?_
          refine gf hx hb hown hts hw hT 9 0 (by decide) (ci := 4) rfl rfl (fun _ h => List.mem_cons_of_mem _ (List.mem_append_right _ h)) 6 (by decide) (List.mem_of_getElem? (i := 3) rfl) (v := .ref (g_ad G 10 1)) rfl dX4_moves_105 ?_
          refine lv_bipush (v := nI 6) hx hb dX4_moves_108 (by decide) ?_
          refine lv_iload_n hx hb dX4_moves_110 rfl (lv_at hl 3 rfl) ?_
          refine lv_imul hx hb dX4_moves_111 ?_
          refine top_i (y := nI (6 * b)) (pk_mul 6 b) ?_
          refine lv_iload hx hb dX4_moves_112 (lv_at hl 0 rfl) ?_
          refine lv_iadd hx hb dX4_moves_114 ?_
          refine top_i (y := nI (6 * b + 0)) (nI_add (6 * b) 0) ?_
          refine lv_aload_n hx hb dX4_moves_115 rfl (lv_at hl 2 rfl) ?_
          refine gf hx hb hown hts hw hT 9 0 (by decide) (ci := 4) rfl rfl (fun _ h => List.mem_cons_of_mem _ (List.mem_append_right _ h)) 16 (by decide) (List.mem_of_getElem? (i := 1) rfl) (v := .ref (g_ad G 10 4)) rfl dX4_moves_116 ?_
          refine lv_iload hx hb dX4_moves_119 (lv_at hl 0 rfl) ?_
          refine afl hx hb hw hT 10 4 (by decide) (f := mFS X9 4) rfl 0 (by decide) (by decide) dX4_moves_121 ?_
          refine afs (S' := (mFU X9 (va_up (mFS X9) 1 (va_up (mFS X9 1) (6 * b + 0) (mFS X9 4 0))))) hx hb hw hT hS 10 1 (by decide) (f := mFS X9 1) rfl (6 * b + 0) (show 6 * b + 0 < 3072 by omega) (by decide) (mup_mF G X9 1 (va_up (mFS X9 1) (6 * b + 0) (mFS X9 4 0))) dX4_moves_122 (fun H locs hw hS => ?_)
          refine lv_iinc (v := nI 1) (lv' := [(6, .int (nI 1)), (5, .int (bI (((fGe (mFS S 4 0) (mFS S 2 (6 * b + 0)) && fLe (mFS S 4 3) (mFS S 2 (6 * b + 3 + 0))) && (fGe (mFS S 4 1) (mFS S 2 (6 * b + 1)) && fLe (mFS S 4 4) (mFS S 2 (6 * b + 3 + 1)))) && (fGe (mFS S 4 2) (mFS S 2 (6 * b + 2)) && fLe (mFS S 4 5) (mFS S 2 (6 * b + 3 + 2)))))), (0, .ref (g_ad G 9 0)), (1, .int (nI b)), (2, .float dx), (3, .float dy), (4, .float dz)]) hx hb dX4_moves_123 hl (k := 0) rfl (by decide) (by decide) rfl (fun ls hl => ?_)
          refine lv_goto (tgt := 97) hx hb dX4_moves_126 (by decide) ?_
          refine lv_iload hx hb dX4_moves_97 (lv_at hl 0 rfl) ?_
          refine lv_bipush (v := nI 6) hx hb dX4_moves_99 (by decide) ?_
          refine lv_icmp_ge (tgt := 129) hx hb dX4_moves_101 (by decide) (fun q => absurd q (by decide)) (fun _ => ?_)
          refine lv_aload_n hx hb dX4_moves_104 rfl (lv_at hl 2 rfl) ?_
          refine gf hx hb hown hts hw hT 9 0 (by decide) (ci := 4) rfl rfl (fun _ h => List.mem_cons_of_mem _ (List.mem_append_right _ h)) 6 (by decide) (List.mem_of_getElem? (i := 3) rfl) (v := .ref (g_ad G 10 1)) rfl dX4_moves_105 ?_
          refine lv_bipush (v := nI 6) hx hb dX4_moves_108 (by decide) ?_
          refine lv_iload_n hx hb dX4_moves_110 rfl (lv_at hl 3 rfl) ?_
          refine lv_imul hx hb dX4_moves_111 ?_
          refine top_i (y := nI (6 * b)) (pk_mul 6 b) ?_
          refine lv_iload hx hb dX4_moves_112 (lv_at hl 0 rfl) ?_
          refine lv_iadd hx hb dX4_moves_114 ?_
          refine top_i (y := nI (6 * b + 1)) (nI_add (6 * b) 1) ?_
          refine lv_aload_n hx hb dX4_moves_115 rfl (lv_at hl 2 rfl) ?_
          refine gf hx hb hown hts hw hT 9 0 (by decide) (ci := 4) rfl rfl (fun _ h => List.mem_cons_of_mem _ (List.mem_append_right _ h)) 16 (by decide) (List.mem_of_getElem? (i := 1) rfl) (v := .ref (g_ad G 10 4)) rfl dX4_moves_116 ?_
          refine lv_iload hx hb dX4_moves_119 (lv_at hl 0 rfl) ?_
          refine afl hx hb hw hT 10 4 (by decide) (f := mFS X9 4) rfl 1 (by decide) (by decide) dX4_moves_121 ?_
          refine afs (S' := (mFU X9 (va_up (mFS X9) 1 (va_up (va_up (mFS X9 1) (6 * b + 0) (mFS X9 4 0)) (6 * b + 1) (mFS X9 4 1))))) hx hb hw hT hS 10 1 (by decide) (f := va_up (mFS X9 1) (6 * b + 0) (mFS X9 4 0)) rfl (6 * b + 1) (show 6 * b + 1 < 3072 by omega) (by decide) (mup2_mF G X9 1 _ (va_up (va_up (mFS X9 1) (6 * b + 0) (mFS X9 4 0)) (6 * b + 1) (mFS X9 4 1))) dX4_moves_122 (fun H locs hw hS => ?_)
          refine lv_iinc (v := nI 2) (lv' := [(6, .int (nI 2)), (5, .int (bI (((fGe (mFS S 4 0) (mFS S 2 (6 * b + 0)) && fLe (mFS S 4 3) (mFS S 2 (6 * b + 3 + 0))) && (fGe (mFS S 4 1) (mFS S 2 (6 * b + 1)) && fLe (mFS S 4 4) (mFS S 2 (6 * b + 3 + 1)))) && (fGe (mFS S 4 2) (mFS S 2 (6 * b + 2)) && fLe (mFS S 4 5) (mFS S 2 (6 * b + 3 + 2)))))), (0, .ref (g_ad G 9 0)), (1, .int (nI b)), (2, .float dx), (3, .float dy), (4, .float dz)]) hx hb dX4_moves_123 hl (k := 0) rfl (by decide) (by decide) rfl (fun ls hl => ?_)
          refine lv_goto (tgt := 97) hx hb dX4_moves_126 (by decide) ?_
          refine lv_iload hx hb dX4_moves_97 (lv_at hl 0 rfl) ?_
          refine lv_bipush (v := nI 6) hx hb dX4_moves_99 (by decide) ?_
          refine lv_icmp_ge (tgt := 129) hx hb dX4_moves_101 (by decide) (fun q => absurd q (by decide)) (fun _ => ?_)
          refine lv_aload_n hx hb dX4_moves_104 rfl (lv_at hl 2 rfl) ?_
          refine gf hx hb hown hts hw hT 9 0 (by decide) (ci := 4) rfl rfl (fun _ h => List.mem_cons_of_mem _ (List.mem_append_right _ h)) 6 (by decide) (List.mem_of_getElem? (i := 3) rfl) (v := .ref (g_ad G 10 1)) rfl dX4_moves_105 ?_
          refine lv_bipush (v := nI 6) hx hb dX4_moves_108 (by decide) ?_
          refine lv_iload_n hx hb dX4_moves_110 rfl (lv_at hl 3 rfl) ?_
          refine lv_imul hx hb dX4_moves_111 ?_
          refine top_i (y := nI (6 * b)) (pk_mul 6 b) ?_
          refine lv_iload hx hb dX4_moves_112 (lv_at hl 0 rfl) ?_
          refine lv_iadd hx hb dX4_moves_114 ?_
          refine top_i (y := nI (6 * b + 2)) (nI_add (6 * b) 2) ?_
          refine lv_aload_n hx hb dX4_moves_115 rfl (lv_at hl 2 rfl) ?_
          refine gf hx hb hown hts hw hT 9 0 (by decide) (ci := 4) rfl rfl (fun _ h => List.mem_cons_of_mem _ (List.mem_append_right _ h)) 16 (by decide) (List.mem_of_getElem? (i := 1) rfl) (v := .ref (g_ad G 10 4)) rfl dX4_moves_116 ?_
          refine lv_iload hx hb dX4_moves_119 (lv_at hl 0 rfl) ?_
          refine afl hx hb hw hT 10 4 (by decide) (f := mFS X9 4) rfl 2 (by decide) (by decide) dX4_moves_121 ?_
          refine afs (S' := (mFU X9 (va_up (mFS X9) 1 (va_up (va_up (va_up (mFS X9 1) (6 * b + 0) (mFS X9 4 0)) (6 * b + 1) (mFS X9 4 1)) (6 * b + 2) (mFS X9 4 2))))) hx hb hw hT hS 10 1 (by decide) (f := va_up (va_up (mFS X9 1) (6 * b + 0) (mFS X9 4 0)) (6 * b + 1) (mFS X9 4 1)) rfl (6 * b + 2) (show 6 * b + 2 < 3072 by omega) (by decide) (mup2_mF G X9 1 _ (va_up (va_up (va_up (mFS X9 1) (6 * b + 0) (mFS X9 4 0)) (6 * b + 1) (mFS X9 4 1)) (6 * b + 2) (mFS X9 4 2))) dX4_moves_122 (fun H locs hw hS => ?_)
          refine lv_iinc (v := nI 3) (lv' := [(6, .int (nI 3)), (5, .int (bI (((fGe (mFS S 4 0) (mFS S 2 (6 * b + 0)) && fLe (mFS S 4 3) (mFS S 2 (6 * b + 3 + 0))) && (fGe (mFS S 4 1) (mFS S 2 (6 * b + 1)) && fLe (mFS S 4 4) (mFS S 2 (6 * b + 3 + 1)))) && (fGe (mFS S 4 2) (mFS S 2 (6 * b + 2)) && fLe (mFS S 4 5) (mFS S 2 (6 * b + 3 + 2)))))), (0, .ref (g_ad G 9 0)), (1, .int (nI b)), (2, .float dx), (3, .float dy), (4, .float dz)]) hx hb dX4_moves_123 hl (k := 0) rfl (by decide) (by decide) rfl (fun ls hl => ?_)
          refine lv_goto (tgt := 97) hx hb dX4_moves_126 (by decide) ?_
          refine lv_iload hx hb dX4_moves_97 (lv_at hl 0 rfl) ?_
          refine lv_bipush (v := nI 6) hx hb dX4_moves_99 (by decide) ?_
          refine lv_icmp_ge (tgt := 129) hx hb dX4_moves_101 (by decide) (fun q => absurd q (by decide)) (fun _ => ?_)
          refine lv_aload_n hx hb dX4_moves_104 rfl (lv_at hl 2 rfl) ?_
          refine gf hx hb hown hts hw hT 9 0 (by decide) (ci := 4) rfl rfl (fun _ h => List.mem_cons_of_mem _ (List.mem_append_right _ h)) 6 (by decide) (List.mem_of_getElem? (i := 3) rfl) (v := .ref (g_ad G 10 1)) rfl dX4_moves_105 ?_
          refine lv_bipush (v := nI 6) hx hb dX4_moves_108 (by decide) ?_
          refine lv_iload_n hx hb dX4_moves_110 rfl (lv_at hl 3 rfl) ?_
          refine lv_imul hx hb dX4_moves_111 ?_
          refine top_i (y := nI (6 * b)) (pk_mul 6 b) ?_
          refine lv_iload hx hb dX4_moves_112 (lv_at hl 0 rfl) ?_
          refine lv_iadd hx hb dX4_moves_114 ?_
          refine top_i (y := nI (6 * b + 3)) (nI_add (6 * b) 3) ?_
          refine lv_aload_n hx hb dX4_moves_115 rfl (lv_at hl 2 rfl) ?_
          refine gf hx hb hown hts hw hT 9 0 (by decide) (ci := 4) rfl rfl (fun _ h => List.mem_cons_of_mem _ (List.mem_append_right _ h)) 16 (by decide) (List.mem_of_getElem? (i := 1) rfl) (v := .ref (g_ad G 10 4)) rfl dX4_moves_116 ?_
          refine lv_iload hx hb dX4_moves_119 (lv_at hl 0 rfl) ?_
          refine afl hx hb hw hT 10 4 (by decide) (f := mFS X9 4) rfl 3 (by decide) (by decide) dX4_moves_121 ?_
          refine afs (S' := (mFU X9 (va_up (mFS X9) 1 (va_up (va_up (va_up (va_up (mFS X9 1) (6 * b + 0) (mFS X9 4 0)) (6 * b + 1) (mFS X9 4 1)) (6 * b + 2) (mFS X9 4 2)) (6 * b + 3) (mFS X9 4 3))))) hx hb hw hT hS 10 1 (by decide) (f := va_up (va_up (va_up (mFS X9 1) (6 * b + 0) (mFS X9 4 0)) (6 * b + 1) (mFS X9 4 1)) (6 * b + 2) (mFS X9 4 2)) rfl (6 * b + 3) (show 6 * b + 3 < 3072 by omega) (by decide) (mup2_mF G X9 1 _ (va_up (va_up (va_up (va_up (mFS X9 1) (6 * b + 0) (mFS X9 4 0)) (6 * b + 1) (mFS X9 4 1)) (6 * b + 2) (mFS X9 4 2)) (6 * b + 3) (mFS X9 4 3))) dX4_moves_122 (fun H locs hw hS => ?_)
          refine lv_iinc (v := nI 4) (lv' := [(6, .int (nI 4)), (5, .int (bI (((fGe (mFS S 4 0) (mFS S 2 (6 * b + 0)) && fLe (mFS S 4 3) (mFS S 2 (6 * b + 3 + 0))) && (fGe (mFS S 4 1) (mFS S 2 (6 * b + 1)) && fLe (mFS S 4 4) (mFS S 2 (6 * b + 3 + 1)))) && (fGe (mFS S 4 2) (mFS S 2 (6 * b + 2)) && fLe (mFS S 4 5) (mFS S 2 (6 * b + 3 + 2)))))), (0, .ref (g_ad G 9 0)), (1, .int (nI b)), (2, .float dx), (3, .float dy), (4, .float dz)]) hx hb dX4_moves_123 hl (k := 0) rfl (by decide) (by decide) rfl (fun ls hl => ?_)
          refine lv_goto (tgt := 97) hx hb dX4_moves_126 (by decide) ?_
          refine lv_iload hx hb dX4_moves_97 (lv_at hl 0 rfl) ?_
          refine lv_bipush (v := nI 6) hx hb dX4_moves_99 (by decide) ?_
          refine lv_icmp_ge (tgt := 129) hx hb dX4_moves_101 (by decide) (fun q => absurd q (by decide)) (fun _ => ?_)
          refine lv_aload_n hx hb dX4_moves_104 rfl (lv_at hl 2 rfl) ?_
          refine gf hx hb hown hts hw hT 9 0 (by decide) (ci := 4) rfl rfl (fun _ h => List.mem_cons_of_mem _ (List.mem_append_right _ h)) 6 (by decide) (List.mem_of_getElem? (i := 3) rfl) (v := .ref (g_ad G 10 1)) rfl dX4_moves_105 ?_
          refine lv_bipush (v := nI 6) hx hb dX4_moves_108 (by decide) ?_
          refine lv_iload_n hx hb dX4_moves_110 rfl (lv_at hl 3 rfl) ?_
          refine lv_imul hx hb dX4_moves_111 ?_
          refine top_i (y := nI (6 * b)) (pk_mul 6 b) ?_
          refine lv_iload hx hb dX4_moves_112 (lv_at hl 0 rfl) ?_
          refine lv_iadd hx hb dX4_moves_114 ?_
          refine top_i (y := nI (6 * b + 4)) (nI_add (6 * b) 4) ?_
          refine lv_aload_n hx hb dX4_moves_115 rfl (lv_at hl 2 rfl) ?_
          refine gf hx hb hown hts hw hT 9 0 (by decide) (ci := 4) rfl rfl (fun _ h => List.mem_cons_of_mem _ (List.mem_append_right _ h)) 16 (by decide) (List.mem_of_getElem? (i := 1) rfl) (v := .ref (g_ad G 10 4)) rfl dX4_moves_116 ?_
          refine lv_iload hx hb dX4_moves_119 (lv_at hl 0 rfl) ?_
          refine afl hx hb hw hT 10 4 (by decide) (f := mFS X9 4) rfl 4 (by decide) (by decide) dX4_moves_121 ?_
          refine afs (S' := (mFU X9 (va_up (mFS X9) 1 (va_up (va_up (va_up (va_up (va_up (mFS X9 1) (6 * b + 0) (mFS X9 4 0)) (6 * b + 1) (mFS X9 4 1)) (6 * b + 2) (mFS X9 4 2)) (6 * b + 3) (mFS X9 4 3)) (6 * b + 4) (mFS X9 4 4))))) hx hb hw hT hS 10 1 (by decide) (f := va_up (va_up (va_up (va_up (mFS X9 1) (6 * b + 0) (mFS X9 4 0)) (6 * b + 1) (mFS X9 4 1)) (6 * b + 2) (mFS X9 4 2)) (6 * b + 3) (mFS X9 4 3)) rfl (6 * b + 4) (show 6 * b + 4 < 3072 by omega) (by decide) (mup2_mF G X9 1 _ (va_up (va_up (va_up (va_up (va_up (mFS X9 1) (6 * b + 0) (mFS X9 4 0)) (6 * b + 1) (mFS X9 4 1)) (6 * b + 2) (mFS X9 4 2)) (6 * b + 3) (mFS X9 4 3)) (6 * b + 4) (mFS X9 4 4))) dX4_moves_122 (fun H locs hw hS => ?_)
          refine lv_iinc (v := nI 5) (lv' := [(6, .int (nI 5)), (5, .int (bI (((fGe (mFS S 4 0) (mFS S 2 (6 * b + 0)) && fLe (mFS S 4 3) (mFS S 2 (6 * b + 3 + 0))) && (fGe (mFS S 4 1) (mFS S 2 (6 * b + 1)) && fLe (mFS S 4 4) (mFS S 2 (6 * b + 3 + 1)))) && (fGe (mFS S 4 2) (mFS S 2 (6 * b + 2)) && fLe (mFS S 4 5) (mFS S 2 (6 * b + 3 + 2)))))), (0, .ref (g_ad G 9 0)), (1, .int (nI b)), (2, .float dx), (3, .float dy), (4, .float dz)]) hx hb dX4_moves_123 hl (k := 0) rfl (by decide) (by decide) rfl (fun ls hl => ?_)
          refine lv_goto (tgt := 97) hx hb dX4_moves_126 (by decide) ?_
          refine lv_iload hx hb dX4_moves_97 (lv_at hl 0 rfl) ?_
          refine lv_bipush (v := nI 6) hx hb dX4_moves_99 (by decide) ?_
          refine lv_icmp_ge (tgt := 129) hx hb dX4_moves_101 (by decide) (fun q => absurd q (by decide)) (fun _ => ?_)
          refine lv_aload_n hx hb dX4_moves_104 rfl (lv_at hl 2 rfl) ?_
          refine gf hx hb hown hts hw hT 9 0 (by decide) (ci := 4) rfl rfl (fun _ h => List.mem_cons_of_mem _ (List.mem_append_right _ h)) 6 (by decide) (List.mem_of_getElem? (i := 3) rfl) (v := .ref (g_ad G 10 1)) rfl dX4_moves_105 ?_
          refine lv_bipush (v := nI 6) hx hb dX4_moves_108 (by decide) ?_
          refine lv_iload_n hx hb dX4_moves_110 rfl (lv_at hl 3 rfl) ?_
          refine lv_imul hx hb dX4_moves_111 ?_
          refine top_i (y := nI (6 * b)) (pk_mul 6 b) ?_
          refine lv_iload hx hb dX4_moves_112 (lv_at hl 0 rfl) ?_
          refine lv_iadd hx hb dX4_moves_114 ?_
          refine top_i (y := nI (6 * b + 5)) (nI_add (6 * b) 5) ?_
          refine lv_aload_n hx hb dX4_moves_115 rfl (lv_at hl 2 rfl) ?_
          refine gf hx hb hown hts hw hT 9 0 (by decide) (ci := 4) rfl rfl (fun _ h => List.mem_cons_of_mem _ (List.mem_append_right _ h)) 16 (by decide) (List.mem_of_getElem? (i := 1) rfl) (v := .ref (g_ad G 10 4)) rfl dX4_moves_116 ?_
          refine lv_iload hx hb dX4_moves_119 (lv_at hl 0 rfl) ?_
          refine afl hx hb hw hT 10 4 (by decide) (f := mFS X9 4) rfl 5 (by decide) (by decide) dX4_moves_121 ?_
          refine afs (S' := (mFU X9 (va_up (mFS X9) 1 (va_up (va_up (va_up (va_up (va_up (va_up (mFS X9 1) (6 * b + 0) (mFS X9 4 0)) (6 * b + 1) (mFS X9 4 1)) (6 * b + 2) (mFS X9 4 2)) (6 * b + 3) (mFS X9 4 3)) (6 * b + 4) (mFS X9 4 4)) (6 * b + 5) (mFS X9 4 5))))) hx hb hw hT hS 10 1 (by decide) (f := va_up (va_up (va_up (va_up (va_up (mFS X9 1) (6 * b + 0) (mFS X9 4 0)) (6 * b + 1) (mFS X9 4 1)) (6 * b + 2) (mFS X9 4 2)) (6 * b + 3) (mFS X9 4 3)) (6 * b + 4) (mFS X9 4 4)) rfl (6 * b + 5) (show 6 * b + 5 < 3072 by omega) (by decide) (mup2_mF G X9 1 _ (va_up (va_up (va_up (va_up (va_up (va_up (mFS X9 1) (6 * b + 0) (mFS X9 4 0)) (6 * b + 1) (mFS X9 4 1)) (6 * b + 2) (mFS X9 4 2)) (6 * b + 3) (mFS X9 4 3)) (6 * b + 4) (mFS X9 4 4)) (6 * b + 5) (mFS X9 4 5))) dX4_moves_122 (fun H locs hw hS => ?_)
          refine lv_iinc (v := nI 6) (lv' := [(6, .int (nI 6)), (5, .int (bI (((fGe (mFS S 4 0) (mFS S 2 (6 * b + 0)) && fLe (mFS S 4 3) (mFS S 2 (6 * b + 3 + 0))) && (fGe (mFS S 4 1) (mFS S 2 (6 * b + 1)) && fLe (mFS S 4 4) (mFS S 2 (6 * b + 3 + 1)))) && (fGe (mFS S 4 2) (mFS S 2 (6 * b + 2)) && fLe (mFS S 4 5) (mFS S 2 (6 * b + 3 + 2)))))), (0, .ref (g_ad G 9 0)), (1, .int (nI b)), (2, .float dx), (3, .float dy), (4, .float dz)]) hx hb dX4_moves_123 hl (k := 0) rfl (by decide) (by decide) rfl (fun ls hl => ?_)
          refine lv_goto (tgt := 97) hx hb dX4_moves_126 (by decide) ?_
          refine lv_iload hx hb dX4_moves_97 (lv_at hl 0 rfl) ?_
          refine lv_bipush (v := nI 6) hx hb dX4_moves_99 (by decide) ?_
          refine lv_icmp_ge (tgt := 129) hx hb dX4_moves_101 (by decide) (fun _ => ?_) (fun q => absurd (by decide) q)
          have hw : wdM G (tgS X9 b) H s := hw
          refine lv_iload hx hb dX4_moves_129 (lv_at hl 1 rfl) ?_
          refine lv_if_ne (tgt := 138) hx hb dX4_moves_131 (by decide) (fun q => absurd (bI_0.mpr h8) q) (fun _ => ?_)
          refine lv_iconst (v := nI 1) hx hb dX4_moves_134 (by decide) ?_
          refine lv_goto (tgt := 139) hx hb dX4_moves_135 (by decide) ?_
          refine top_i (y := bI true) (by decide) ?_
          exact ri hx hb hlk hr (by unfold moM; rw [if_neg (by unfold moF; rw [h8]; decide), ← hX9]; exact hw) hS (congrArg bI (by unfold moF; rw [h8]; rfl)) (bI_nar _) (Nat.le_of_ble_eq_true rfl) (Nat.le_of_ble_eq_true rfl) dX4_moves_139
      refine lv_iload hx hb dX4_moves_12 (lv_at hl 1 rfl) ?_
      refine lv_if_eq (tgt := 71) hx hb dX4_moves_14 (by decide) (fun h25 => ?_) (fun h25 => ?_)
      · skip
        have h25 := bI_0.mp h25
        refine lv_iconst (v := nI 0) hx hb dX4_moves_71 (by decide) ?_
        refine top_i (y := bI false) (by decide) ?_
        exact K6 false _ _ (by first | (simp only [h25, Bool.true_and, Bool.false_and, Bool.and_true, Bool.and_false]; done) | simp [h25]) hw hS
      · skip
        have h25 := bI_n0.mp h25
        refine lv_aload_n hx hb dX4_moves_17 rfl (lv_at hl 2 rfl) ?_
        refine gf hx hb hown hts hw hT 9 0 (by decide) (ci := 4) rfl rfl (fun _ h => List.mem_cons_of_mem _ (List.mem_append_right _ h)) 16 (by decide) (List.mem_of_getElem? (i := 1) rfl) (v := .ref (g_ad G 10 4)) rfl dX4_moves_18 ?_
        refine lv_iload hx hb dX4_moves_21 (lv_at hl 0 rfl) ?_
        refine afl hx hb hw hT 10 4 (by decide) (f := mFS S 4) rfl 2 (by decide) (by decide) dX4_moves_23 ?_
        refine lv_aload_n hx hb dX4_moves_24 rfl (lv_at hl 2 rfl) ?_
        refine gf hx hb hown hts hw hT 9 0 (by decide) (ci := 4) rfl rfl (fun _ h => List.mem_cons_of_mem _ (List.mem_append_right _ h)) 7 (by decide) (List.mem_of_getElem? (i := 2) rfl) (v := .ref (g_ad G 10 2)) rfl dX4_moves_25 ?_
        refine lv_bipush (v := nI 6) hx hb dX4_moves_28 (by decide) ?_
        refine lv_iload_n hx hb dX4_moves_30 rfl (lv_at hl 3 rfl) ?_
        refine lv_imul hx hb dX4_moves_31 ?_
        refine top_i (y := nI (6 * b)) (pk_mul 6 b) ?_
        refine lv_iload hx hb dX4_moves_32 (lv_at hl 0 rfl) ?_
        refine lv_iadd hx hb dX4_moves_34 ?_
        refine top_i (y := nI (6 * b + 2)) (nI_add (6 * b) 2) ?_
        refine afl hx hb hw hT 10 2 (by decide) (f := mFS S 2) rfl (6 * b + 2) (show 6 * b + 2 < 3072 by omega) (by decide) dX4_moves_35 ?_
        refine fc_llt (x := mFS S 4 2) (y := mFS S 2 (6 * b + 2)) (tgt := 71) hx hb dX4_moves_36 dX4_moves_37 (by decide) (fun h26 => ?_) (fun h26 => ?_)
        · skip
          refine lv_iconst (v := nI 0) hx hb dX4_moves_71 (by decide) ?_
          refine top_i (y := bI false) (by decide) ?_
          exact K6 false _ _ (by first | (simp only [h25, h26, Bool.true_and, Bool.false_and, Bool.and_true, Bool.and_false]; done) | simp [h25, h26]) hw hS
        · skip
          refine lv_aload_n hx hb dX4_moves_40 rfl (lv_at hl 2 rfl) ?_
          refine gf hx hb hown hts hw hT 9 0 (by decide) (ci := 4) rfl rfl (fun _ h => List.mem_cons_of_mem _ (List.mem_append_right _ h)) 16 (by decide) (List.mem_of_getElem? (i := 1) rfl) (v := .ref (g_ad G 10 4)) rfl dX4_moves_41 ?_
          refine lv_iload hx hb dX4_moves_44 (lv_at hl 0 rfl) ?_
          refine lv_iconst (v := nI 3) hx hb dX4_moves_46 (by decide) ?_
          refine lv_iadd hx hb dX4_moves_47 ?_
          refine top_i (y := nI 5) (by decide) ?_
          refine afl hx hb hw hT 10 4 (by decide) (f := mFS S 4) rfl 5 (by decide) (by decide) dX4_moves_48 ?_
          refine lv_aload_n hx hb dX4_moves_49 rfl (lv_at hl 2 rfl) ?_
          refine gf hx hb hown hts hw hT 9 0 (by decide) (ci := 4) rfl rfl (fun _ h => List.mem_cons_of_mem _ (List.mem_append_right _ h)) 7 (by decide) (List.mem_of_getElem? (i := 2) rfl) (v := .ref (g_ad G 10 2)) rfl dX4_moves_50 ?_
          refine lv_bipush (v := nI 6) hx hb dX4_moves_53 (by decide) ?_
          refine lv_iload_n hx hb dX4_moves_55 rfl (lv_at hl 3 rfl) ?_
          refine lv_imul hx hb dX4_moves_56 ?_
          refine top_i (y := nI (6 * b)) (pk_mul 6 b) ?_
          refine lv_iconst (v := nI 3) hx hb dX4_moves_57 (by decide) ?_
          refine lv_iadd hx hb dX4_moves_58 ?_
          refine top_i (y := nI (6 * b + 3)) (nI_add (6 * b) 3) ?_
          refine lv_iload hx hb dX4_moves_59 (lv_at hl 0 rfl) ?_
          refine lv_iadd hx hb dX4_moves_61 ?_
          refine top_i (y := nI (6 * b + 3 + 2)) (nI_add (6 * b + 3) 2) ?_
          refine afl hx hb hw hT 10 2 (by decide) (f := mFS S 2) rfl (6 * b + 3 + 2) (show 6 * b + 3 + 2 < 3072 by omega) (by decide) dX4_moves_62 ?_
          refine fc_ggt (x := mFS S 4 5) (y := mFS S 2 (6 * b + 3 + 2)) (tgt := 71) hx hb dX4_moves_63 dX4_moves_64 (by decide) (fun h27 => ?_) (fun h27 => ?_)
          · skip
            refine lv_iconst (v := nI 0) hx hb dX4_moves_71 (by decide) ?_
            refine top_i (y := bI false) (by decide) ?_
            exact K6 false _ _ (by first | (simp only [h25, h26, h27, Bool.true_and, Bool.false_and, Bool.and_true, Bool.and_false]; done) | simp [h25, h26, h27]) hw hS
          · skip
            refine lv_iconst (v := nI 1) hx hb dX4_moves_67 (by decide) ?_
            refine lv_goto (tgt := 72) hx hb dX4_moves_68 (by decide) ?_
            refine top_i (y := bI true) (by decide) ?_
            exact K6 true _ _ (by first | (simp only [h25, h26, h27, Bool.true_and, Bool.false_and, Bool.and_true, Bool.and_false]; done) | simp [h25, h26, h27]) hw hS
    refine lv_iload hx hb dX4_moves_12 (lv_at hl 1 rfl) ?_
    refine lv_if_eq (tgt := 71) hx hb dX4_moves_14 (by decide) (fun h28 => ?_) (fun h28 => ?_)
    · skip
      have h28 := bI_0.mp h28
      refine lv_iconst (v := nI 0) hx hb dX4_moves_71 (by decide) ?_
      refine top_i (y := bI false) (by decide) ?_
      exact K4 false _ _ (by first | (simp only [h28, Bool.true_and, Bool.false_and, Bool.and_true, Bool.and_false]; done) | simp [h28]) hw hS
    · skip
      have h28 := bI_n0.mp h28
      refine lv_aload_n hx hb dX4_moves_17 rfl (lv_at hl 2 rfl) ?_
      refine gf hx hb hown hts hw hT 9 0 (by decide) (ci := 4) rfl rfl (fun _ h => List.mem_cons_of_mem _ (List.mem_append_right _ h)) 16 (by decide) (List.mem_of_getElem? (i := 1) rfl) (v := .ref (g_ad G 10 4)) rfl dX4_moves_18 ?_
      refine lv_iload hx hb dX4_moves_21 (lv_at hl 0 rfl) ?_
      refine afl hx hb hw hT 10 4 (by decide) (f := mFS S 4) rfl 1 (by decide) (by decide) dX4_moves_23 ?_
      refine lv_aload_n hx hb dX4_moves_24 rfl (lv_at hl 2 rfl) ?_
      refine gf hx hb hown hts hw hT 9 0 (by decide) (ci := 4) rfl rfl (fun _ h => List.mem_cons_of_mem _ (List.mem_append_right _ h)) 7 (by decide) (List.mem_of_getElem? (i := 2) rfl) (v := .ref (g_ad G 10 2)) rfl dX4_moves_25 ?_
      refine lv_bipush (v := nI 6) hx hb dX4_moves_28 (by decide) ?_
      refine lv_iload_n hx hb dX4_moves_30 rfl (lv_at hl 3 rfl) ?_
      refine lv_imul hx hb dX4_moves_31 ?_
      refine top_i (y := nI (6 * b)) (pk_mul 6 b) ?_
      refine lv_iload hx hb dX4_moves_32 (lv_at hl 0 rfl) ?_
      refine lv_iadd hx hb dX4_moves_34 ?_
      refine top_i (y := nI (6 * b + 1)) (nI_add (6 * b) 1) ?_
      refine afl hx hb hw hT 10 2 (by decide) (f := mFS S 2) rfl (6 * b + 1) (show 6 * b + 1 < 3072 by omega) (by decide) dX4_moves_35 ?_
      refine fc_llt (x := mFS S 4 1) (y := mFS S 2 (6 * b + 1)) (tgt := 71) hx hb dX4_moves_36 dX4_moves_37 (by decide) (fun h29 => ?_) (fun h29 => ?_)
      · skip
        refine lv_iconst (v := nI 0) hx hb dX4_moves_71 (by decide) ?_
        refine top_i (y := bI false) (by decide) ?_
        exact K4 false _ _ (by first | (simp only [h28, h29, Bool.true_and, Bool.false_and, Bool.and_true, Bool.and_false]; done) | simp [h28, h29]) hw hS
      · skip
        refine lv_aload_n hx hb dX4_moves_40 rfl (lv_at hl 2 rfl) ?_
        refine gf hx hb hown hts hw hT 9 0 (by decide) (ci := 4) rfl rfl (fun _ h => List.mem_cons_of_mem _ (List.mem_append_right _ h)) 16 (by decide) (List.mem_of_getElem? (i := 1) rfl) (v := .ref (g_ad G 10 4)) rfl dX4_moves_41 ?_
        refine lv_iload hx hb dX4_moves_44 (lv_at hl 0 rfl) ?_
        refine lv_iconst (v := nI 3) hx hb dX4_moves_46 (by decide) ?_
        refine lv_iadd hx hb dX4_moves_47 ?_
        refine top_i (y := nI 4) (by decide) ?_
        refine afl hx hb hw hT 10 4 (by decide) (f := mFS S 4) rfl 4 (by decide) (by decide) dX4_moves_48 ?_
        refine lv_aload_n hx hb dX4_moves_49 rfl (lv_at hl 2 rfl) ?_
        refine gf hx hb hown hts hw hT 9 0 (by decide) (ci := 4) rfl rfl (fun _ h => List.mem_cons_of_mem _ (List.mem_append_right _ h)) 7 (by decide) (List.mem_of_getElem? (i := 2) rfl) (v := .ref (g_ad G 10 2)) rfl dX4_moves_50 ?_
        refine lv_bipush (v := nI 6) hx hb dX4_moves_53 (by decide) ?_
        refine lv_iload_n hx hb dX4_moves_55 rfl (lv_at hl 3 rfl) ?_
        refine lv_imul hx hb dX4_moves_56 ?_
        refine top_i (y := nI (6 * b)) (pk_mul 6 b) ?_
        refine lv_iconst (v := nI 3) hx hb dX4_moves_57 (by decide) ?_
        refine lv_iadd hx hb dX4_moves_58 ?_
        refine top_i (y := nI (6 * b + 3)) (nI_add (6 * b) 3) ?_
        refine lv_iload hx hb dX4_moves_59 (lv_at hl 0 rfl) ?_
        refine lv_iadd hx hb dX4_moves_61 ?_
        refine top_i (y := nI (6 * b + 3 + 1)) (nI_add (6 * b + 3) 1) ?_
        refine afl hx hb hw hT 10 2 (by decide) (f := mFS S 2) rfl (6 * b + 3 + 1) (show 6 * b + 3 + 1 < 3072 by omega) (by decide) dX4_moves_62 ?_
        refine fc_ggt (x := mFS S 4 4) (y := mFS S 2 (6 * b + 3 + 1)) (tgt := 71) hx hb dX4_moves_63 dX4_moves_64 (by decide) (fun h30 => ?_) (fun h30 => ?_)
        · skip
          refine lv_iconst (v := nI 0) hx hb dX4_moves_71 (by decide) ?_
          refine top_i (y := bI false) (by decide) ?_
          exact K4 false _ _ (by first | (simp only [h28, h29, h30, Bool.true_and, Bool.false_and, Bool.and_true, Bool.and_false]; done) | simp [h28, h29, h30]) hw hS
        · skip
          refine lv_iconst (v := nI 1) hx hb dX4_moves_67 (by decide) ?_
          refine lv_goto (tgt := 72) hx hb dX4_moves_68 (by decide) ?_
          refine top_i (y := bI true) (by decide) ?_
          exact K4 true _ _ (by first | (simp only [h28, h29, h30, Bool.true_and, Bool.false_and, Bool.and_true, Bool.and_false]; done) | simp [h28, h29, h30]) hw hS
  refine lv_iload hx hb dX4_moves_12 (lv_at hl 1 rfl) ?_
  refine lv_if_eq (tgt := 71) hx hb dX4_moves_14 (by decide) (fun q => absurd q (by decide)) (fun _ => ?_)
  refine lv_aload_n hx hb dX4_moves_17 rfl (lv_at hl 2 rfl) ?_
  refine gf hx hb hown hts hw hT 9 0 (by decide) (ci := 4) rfl rfl (fun _ h => List.mem_cons_of_mem _ (List.mem_append_right _ h)) 16 (by decide) (List.mem_of_getElem? (i := 1) rfl) (v := .ref (g_ad G 10 4)) rfl dX4_moves_18 ?_
  refine lv_iload hx hb dX4_moves_21 (lv_at hl 0 rfl) ?_
  refine afl hx hb hw hT 10 4 (by decide) (f := mFS S 4) rfl 0 (by decide) (by decide) dX4_moves_23 ?_
  refine lv_aload_n hx hb dX4_moves_24 rfl (lv_at hl 2 rfl) ?_
  refine gf hx hb hown hts hw hT 9 0 (by decide) (ci := 4) rfl rfl (fun _ h => List.mem_cons_of_mem _ (List.mem_append_right _ h)) 7 (by decide) (List.mem_of_getElem? (i := 2) rfl) (v := .ref (g_ad G 10 2)) rfl dX4_moves_25 ?_
  refine lv_bipush (v := nI 6) hx hb dX4_moves_28 (by decide) ?_
  refine lv_iload_n hx hb dX4_moves_30 rfl (lv_at hl 3 rfl) ?_
  refine lv_imul hx hb dX4_moves_31 ?_
  refine top_i (y := nI (6 * b)) (pk_mul 6 b) ?_
  refine lv_iload hx hb dX4_moves_32 (lv_at hl 0 rfl) ?_
  refine lv_iadd hx hb dX4_moves_34 ?_
  refine top_i (y := nI (6 * b + 0)) (nI_add (6 * b) 0) ?_
  refine afl hx hb hw hT 10 2 (by decide) (f := mFS S 2) rfl (6 * b + 0) (show 6 * b + 0 < 3072 by omega) (by decide) dX4_moves_35 ?_
  refine fc_llt (x := mFS S 4 0) (y := mFS S 2 (6 * b + 0)) (tgt := 71) hx hb dX4_moves_36 dX4_moves_37 (by decide) (fun h32 => ?_) (fun h32 => ?_)
  · skip
    refine lv_iconst (v := nI 0) hx hb dX4_moves_71 (by decide) ?_
    refine top_i (y := bI false) (by decide) ?_
    exact K2 false _ _ (by first | (simp only [h32, Bool.true_and, Bool.false_and, Bool.and_true, Bool.and_false]; done) | simp [h32]) hw hS
  · skip
    refine lv_aload_n hx hb dX4_moves_40 rfl (lv_at hl 2 rfl) ?_
    refine gf hx hb hown hts hw hT 9 0 (by decide) (ci := 4) rfl rfl (fun _ h => List.mem_cons_of_mem _ (List.mem_append_right _ h)) 16 (by decide) (List.mem_of_getElem? (i := 1) rfl) (v := .ref (g_ad G 10 4)) rfl dX4_moves_41 ?_
    refine lv_iload hx hb dX4_moves_44 (lv_at hl 0 rfl) ?_
    refine lv_iconst (v := nI 3) hx hb dX4_moves_46 (by decide) ?_
    refine lv_iadd hx hb dX4_moves_47 ?_
    refine top_i (y := nI 3) (by decide) ?_
    refine afl hx hb hw hT 10 4 (by decide) (f := mFS S 4) rfl 3 (by decide) (by decide) dX4_moves_48 ?_
    refine lv_aload_n hx hb dX4_moves_49 rfl (lv_at hl 2 rfl) ?_
    refine gf hx hb hown hts hw hT 9 0 (by decide) (ci := 4) rfl rfl (fun _ h => List.mem_cons_of_mem _ (List.mem_append_right _ h)) 7 (by decide) (List.mem_of_getElem? (i := 2) rfl) (v := .ref (g_ad G 10 2)) rfl dX4_moves_50 ?_
    refine lv_bipush (v := nI 6) hx hb dX4_moves_53 (by decide) ?_
    refine lv_iload_n hx hb dX4_moves_55 rfl (lv_at hl 3 rfl) ?_
    refine lv_imul hx hb dX4_moves_56 ?_
    refine top_i (y := nI (6 * b)) (pk_mul 6 b) ?_
    refine lv_iconst (v := nI 3) hx hb dX4_moves_57 (by decide) ?_
    refine lv_iadd hx hb dX4_moves_58 ?_
    refine top_i (y := nI (6 * b + 3)) (nI_add (6 * b) 3) ?_
    refine lv_iload hx hb dX4_moves_59 (lv_at hl 0 rfl) ?_
    refine lv_iadd hx hb dX4_moves_61 ?_
    refine top_i (y := nI (6 * b + 3 + 0)) (nI_add (6 * b + 3) 0) ?_
    refine afl hx hb hw hT 10 2 (by decide) (f := mFS S 2) rfl (6 * b + 3 + 0) (show 6 * b + 3 + 0 < 3072 by omega) (by decide) dX4_moves_62 ?_
    refine fc_ggt (x := mFS S 4 3) (y := mFS S 2 (6 * b + 3 + 0)) (tgt := 71) hx hb dX4_moves_63 dX4_moves_64 (by decide) (fun h33 => ?_) (fun h33 => ?_)
    · skip
      refine lv_iconst (v := nI 0) hx hb dX4_moves_71 (by decide) ?_
      refine top_i (y := bI false) (by decide) ?_
      exact K2 false _ _ (by first | (simp only [h32, h33, Bool.true_and, Bool.false_and, Bool.and_true, Bool.and_false]; done) | simp [h32, h33]) hw hS
    · skip
      refine lv_iconst (v := nI 1) hx hb dX4_moves_67 (by decide) ?_
      refine lv_goto (tgt := 72) hx hb dX4_moves_68 (by decide) ?_
      refine top_i (y := bI true) (by decide) ?_
      exact K2 true _ _ (by first | (simp only [h32, h33, Bool.true_and, Bool.false_and, Bool.and_true, Bool.and_false]; done) | simp [h32, h33]) hw hS
set_option maxRecDepth 100000 in
set_option maxHeartbeats 1000000 in
theorem m_move (l : Launch) (G : Gm) (S : St) (hp : Gb (mFS S 0)) (k : Int32) (dx dy dz : UInt32) : Pi l yX4_move wsX4_move ({ frames := 3, cells := 0, slots := 0, locals := 76 } : Room) [.ref (g_ad G 9 0), .int k, .float dx, .float dy, .float dz] G S (bI (mvMB S k dx dy dz)) (mvMS S k dx dy dz) := by
  refine ent (cc := cX4_move) (maxL := 5) (ret := (some .boolean)) (by decide) rfl (Nat.le_of_ble_eq_true rfl) ?_
  intro p e s m below meth c ls C hw hT hS hl
  obtain ⟨hx, hb, hr, hml, hown, hts, hlk⟩ := C
  have hl : lv_has ls 5 [(0, .ref (g_ad G 9 0)), (1, .int k), (2, .float dx), (3, .float dy), (4, .float dz)] := hl
  refine lv_aload_n hx hb dX4_move_0 rfl (lv_at hl 0 rfl) ?_
  refine lv_aload_n hx hb dX4_move_1 rfl (lv_at hl 0 rfl) ?_
  refine lv_iload_n hx hb dX4_move_2 rfl (lv_at hl 1 rfl) ?_
  refine cVi ⟨hx, hb, hml, hown, hts⟩ (m_known l G S k) (cwV 1 hts gX4_move_X4_known rfl rfl rfl (by decide +kernel) ⟨(Nat.le_of_ble_eq_true rfl), (Nat.le_of_ble_eq_true rfl)⟩) hw hT hS (rcv hw hT 9 0 (by decide) rfl rfl) (As := [.int k]) (rest := [.ref (g_ad G 9 0)]) rfl hl.1 rfl (Nat.le_of_ble_eq_true rfl) dX4_move_3 ⟨(Nat.le_of_ble_eq_true rfl), (Nat.le_of_ble_eq_true rfl)⟩ (fun H locs hw hS => ?_)
  have K1 : ∀ (b9 : Bool) (H : Heap) (locs : List Loc), b9 = (pbF (mFS S 0) && slF dx dy dz) → wdM G S H s → va_S (g_A G) s.heap H locs → W p l e ({ frames := 3, cells := 0, slots := 0, locals := 76 } : Room) s m ([.ref (g_ad G 9 0), .int k, .float dx, .float dy, .float dz] : List Value).toArray below meth c H locs 0 0 (MQ below (Qi G (bI (mvMB S k dx dy dz)) (mvMS S k dx dy dz)) ([.ref (g_ad G 9 0), .int k, .float dx, .float dy, .float dz] : List Value).toArray s ({ frames := 3, cells := 0, slots := 0, locals := 76 } : Room).cells ({ frames := 3, cells := 0, slots := 0, locals := 76 } : Room).slots (g_A G)) (F0 m 28 ls [.int (bI b9), .int (bI (kwF S k)), .ref (g_ad G 9 0)]) := by
    intro b9 H locs hb9 hw hS
    subst hb9
    refine cVi ⟨hx, hb, hml, hown, hts⟩ (m_goes l G S (kwF S k) (pbF (mFS S 0) && slF dx dy dz)) (cwV 2 hts gX4_move_X4_goes rfl rfl rfl (by decide +kernel) ⟨(Nat.le_of_ble_eq_true rfl), (Nat.le_of_ble_eq_true rfl)⟩) hw hT hS (rcv hw hT 9 0 (by decide) rfl rfl) (As := [.int (bI (kwF S k)), .int (bI (pbF (mFS S 0) && slF dx dy dz))]) (rest := []) rfl hl.1 rfl (Nat.le_of_ble_eq_true rfl) dX4_move_28 ⟨(Nat.le_of_ble_eq_true rfl), (Nat.le_of_ble_eq_true rfl)⟩ (fun H locs hw hS => ?_)
    refine lv_if_ne (tgt := 36) hx hb dX4_move_31 (by decide) (fun h2 => ?_) (fun h2 => ?_)
    · skip
      have h2 := bI_n0.mp h2
      replace hw : wdM G (okS S) H s := by rw [gs_ok h2] at hw; exact hw
      obtain ⟨kn, hkn, rfl, hth⟩ := kw_nat (and_l h2)
      have kN9 : kN (nI kn) = kn := kN_nI (by omega)
      refine lv_aload_n hx hb dX4_move_36 rfl (lv_at hl 0 rfl) ?_
      refine cVv ⟨hx, hb, hml, hown, hts⟩ (m_takePad l G (okS S)) (cwV 0 hts gX4_move_X4_takePad rfl rfl rfl (by decide +kernel) ⟨(Nat.le_of_ble_eq_true rfl), (Nat.le_of_ble_eq_true rfl)⟩) hw hT hS (rcv hw hT 9 0 (by decide) rfl rfl) (As := []) (rest := []) rfl hl.1 rfl (Nat.le_of_ble_eq_true rfl) dX4_move_37 ⟨(Nat.le_of_ble_eq_true rfl), (Nat.le_of_ble_eq_true rfl)⟩ (fun H locs hw hS => ?_)
      refine lv_aload_n hx hb dX4_move_40 rfl (lv_at hl 0 rfl) ?_
      refine lv_iload_n hx hb dX4_move_41 rfl (lv_at hl 1 rfl) ?_
      refine lv_fload_n hx hb dX4_move_42 rfl (lv_at hl 2 rfl) ?_
      refine lv_fload_n hx hb dX4_move_43 rfl (lv_at hl 3 rfl) ?_
      refine lv_fload hx hb dX4_move_44 (lv_at hl 4 rfl) ?_
      refine cVi ⟨hx, hb, hml, hown, hts⟩ (m_moves l G (tkS (okS S)) kn (by omega) dx dy dz (se_n (tk_gb hp) (mvB_at (sl_mv (and_r (and_r h2)))).1 (mvB_at (sl_mv (and_r (and_r h2)))).2.1 (mvB_at (sl_mv (and_r (and_r h2)))).2.2)) (cwV 4 hts gX4_move_X4_moves rfl rfl rfl (by decide +kernel) ⟨(Nat.le_of_ble_eq_true rfl), (Nat.le_of_ble_eq_true rfl)⟩) hw hT hS (rcv hw hT 9 0 (by decide) rfl rfl) (As := [.int (nI kn), .float dx, .float dy, .float dz]) (rest := []) rfl hl.1 rfl (Nat.le_of_ble_eq_true rfl) dX4_move_46 ⟨(Nat.le_of_ble_eq_true rfl), (Nat.le_of_ble_eq_true rfl)⟩ (fun H locs hw hS => ?_)
      exact ri hx hb hlk hr (by unfold mvMS; rw [if_pos h2, kN9]; exact hw) hS (congrArg bI (by unfold mvMB; rw [h2, kN9]; rfl)) (bI_nar _) (Nat.le_of_ble_eq_true rfl) (Nat.le_of_ble_eq_true rfl) dX4_move_49
    · skip
      have h2 := bI_0.mp h2
      refine lv_iconst (v := nI 0) hx hb dX4_move_34 (by decide) ?_
      refine top_i (y := bI false) (by decide) ?_
      exact ri hx hb hlk hr (by unfold mvMS; rw [if_neg (by rw [h2]; decide)]; exact hw) hS (congrArg bI (by unfold mvMB; rw [h2]; rfl)) (bI_nar _) (Nat.le_of_ble_eq_true rfl) (Nat.le_of_ble_eq_true rfl) dX4_move_35
  refine lv_aload_n hx hb dX4_move_6 rfl (lv_at hl 0 rfl) ?_
  refine cVi ⟨hx, hb, hml, hown, hts⟩ (m_padIsBox l G S) (cwV 0 hts gX4_move_X4_padIsBox rfl rfl rfl (by decide +kernel) ⟨(Nat.le_of_ble_eq_true rfl), (Nat.le_of_ble_eq_true rfl)⟩) hw hT hS (rcv hw hT 9 0 (by decide) rfl rfl) (As := []) (rest := [.int (bI (kwF S k)), .ref (g_ad G 9 0)]) rfl hl.1 rfl (Nat.le_of_ble_eq_true rfl) dX4_move_7 ⟨(Nat.le_of_ble_eq_true rfl), (Nat.le_of_ble_eq_true rfl)⟩ (fun H locs hw hS => ?_)
  refine lv_if_eq (tgt := 27) hx hb dX4_move_10 (by decide) (fun h3 => ?_) (fun h3 => ?_)
  · skip
    have h3 := bI_0.mp h3
    refine lv_iconst (v := nI 0) hx hb dX4_move_27 (by decide) ?_
    refine top_i (y := bI false) (by decide) ?_
    exact K1 false _ _ (by first | (simp only [h3, Bool.true_and, Bool.false_and, Bool.and_true, Bool.and_false]; done) | simp [h3]) hw hS
  · skip
    have h3 := bI_n0.mp h3
    refine lv_fload_n hx hb dX4_move_13 rfl (lv_at hl 2 rfl) ?_
    refine lv_fload_n hx hb dX4_move_14 rfl (lv_at hl 3 rfl) ?_
    refine lv_fload hx hb dX4_move_15 (lv_at hl 4 rfl) ?_
    refine cSi ⟨hx, hb, hml, hown, hts⟩ (m_slow l G S dx dy dz) (va_cwS 3 hts gX4_move_X4_slow rfl rfl rfl (by decide +kernel) ⟨(Nat.le_of_ble_eq_true rfl), (Nat.le_of_ble_eq_true rfl)⟩) hw hT hS (As := [.float dx, .float dy, .float dz]) (rest := [.int (bI (kwF S k)), .ref (g_ad G 9 0)]) rfl hl.1 rfl (Nat.le_of_ble_eq_true rfl) dX4_move_17 ⟨(Nat.le_of_ble_eq_true rfl), (Nat.le_of_ble_eq_true rfl)⟩ (fun H locs hw hS => ?_)
    refine lv_if_eq (tgt := 27) hx hb dX4_move_20 (by decide) (fun h4 => ?_) (fun h4 => ?_)
    · skip
      have h4 := bI_0.mp h4
      refine lv_iconst (v := nI 0) hx hb dX4_move_27 (by decide) ?_
      refine top_i (y := bI false) (by decide) ?_
      exact K1 false _ _ (by first | (simp only [h3, h4, Bool.true_and, Bool.false_and, Bool.and_true, Bool.and_false]; done) | simp [h3, h4]) hw hS
    · skip
      have h4 := bI_n0.mp h4
      refine lv_iconst (v := nI 1) hx hb dX4_move_23 (by decide) ?_
      refine lv_goto (tgt := 28) hx hb dX4_move_24 (by decide) ?_
      refine top_i (y := bI true) (by decide) ?_
      exact K1 true _ _ (by first | (simp only [h3, h4, Bool.true_and, Bool.false_and, Bool.and_true, Bool.and_false]; done) | simp [h3, h4]) hw hS
set_option maxRecDepth 100000 in
set_option maxHeartbeats 1000000 in
theorem m_through (l : Launch) (G : Gm) (S : St) (a : Nat) (ha5 : a < 512) (b : Nat) (hb5 : b < 512) : Pi l yX4_through wsX4_through ({ frames := 0, cells := 0, slots := 0, locals := 0 } : Room) [.ref (g_ad G 9 0), .int (nI a), .int (nI b)] G S (bI (thF S a b)) S := by
  refine ent (cc := cX4_through) (maxL := 3) (ret := (some .boolean)) (by decide) rfl (Nat.le_of_ble_eq_true rfl) ?_
  intro p e s m below meth c ls C hw hT hS hl
  obtain ⟨hx, hb, hr, hml, hown, hts, hlk⟩ := C
  have hl : lv_has ls 3 [(0, .ref (g_ad G 9 0)), (1, .int (nI a)), (2, .int (nI b))] := hl
  refine lv_aload_n hx hb dX4_through_0 rfl (lv_at hl 0 rfl) ?_
  refine gf hx hb hown hts hw hT 9 0 (by decide) (ci := 4) rfl rfl (fun _ h => List.mem_cons_of_mem _ (List.mem_append_right _ h)) 4 (by decide) (List.mem_of_getElem? (i := 1) rfl) (v := .ref (g_ad G 11 0)) rfl dX4_through_1 ?_
  refine lv_iload_n hx hb dX4_through_4 rfl (lv_at hl 1 rfl) ?_
  refine ail hx hb hw hT 11 0 (by decide) (f := mIS S 0) rfl a (show a < 512 by omega) (by decide) dX4_through_5 ?_
  refine lv_aload_n hx hb dX4_through_6 rfl (lv_at hl 0 rfl) ?_
  refine gf hx hb hown hts hw hT 9 0 (by decide) (ci := 4) rfl rfl (fun _ h => List.mem_cons_of_mem _ (List.mem_append_right _ h)) 5 (by decide) (List.mem_of_getElem? (i := 2) rfl) (v := .ref (g_ad G 11 1)) rfl dX4_through_7 ?_
  refine lv_iload_n hx hb dX4_through_10 rfl (lv_at hl 2 rfl) ?_
  refine ail hx hb hw hT 11 1 (by decide) (f := mIS S 1) rfl b (show b < 512 by omega) (by decide) dX4_through_11 ?_
  refine lv_iand hx hb dX4_through_12 ?_
  refine lv_if_eq (tgt := 36) hx hb dX4_through_13 (by decide) (fun h1 => ?_) (fun h1 => ?_)
  · skip
    refine lv_iconst (v := nI 0) hx hb dX4_through_36 (by decide) ?_
    refine top_i (y := bI false) (by decide) ?_
    exact ri hx hb hlk hr hw hS (congrArg bI (by simp [thF, h1])) (bI_nar _) (Nat.le_of_ble_eq_true rfl) (Nat.le_of_ble_eq_true rfl) dX4_through_37
  · skip
    refine lv_aload_n hx hb dX4_through_16 rfl (lv_at hl 0 rfl) ?_
    refine gf hx hb hown hts hw hT 9 0 (by decide) (ci := 4) rfl rfl (fun _ h => List.mem_cons_of_mem _ (List.mem_append_right _ h)) 4 (by decide) (List.mem_of_getElem? (i := 1) rfl) (v := .ref (g_ad G 11 0)) rfl dX4_through_17 ?_
    refine lv_iload_n hx hb dX4_through_20 rfl (lv_at hl 2 rfl) ?_
    refine ail hx hb hw hT 11 0 (by decide) (f := mIS S 0) rfl b (show b < 512 by omega) (by decide) dX4_through_21 ?_
    refine lv_aload_n hx hb dX4_through_22 rfl (lv_at hl 0 rfl) ?_
    refine gf hx hb hown hts hw hT 9 0 (by decide) (ci := 4) rfl rfl (fun _ h => List.mem_cons_of_mem _ (List.mem_append_right _ h)) 5 (by decide) (List.mem_of_getElem? (i := 2) rfl) (v := .ref (g_ad G 11 1)) rfl dX4_through_23 ?_
    refine lv_iload_n hx hb dX4_through_26 rfl (lv_at hl 1 rfl) ?_
    refine ail hx hb hw hT 11 1 (by decide) (f := mIS S 1) rfl a (show a < 512 by omega) (by decide) dX4_through_27 ?_
    refine lv_iand hx hb dX4_through_28 ?_
    refine lv_if_eq (tgt := 36) hx hb dX4_through_29 (by decide) (fun h2 => ?_) (fun h2 => ?_)
    · skip
      refine lv_iconst (v := nI 0) hx hb dX4_through_36 (by decide) ?_
      refine top_i (y := bI false) (by decide) ?_
      exact ri hx hb hlk hr hw hS (congrArg bI (by simp [thF, h1, h2])) (bI_nar _) (Nat.le_of_ble_eq_true rfl) (Nat.le_of_ble_eq_true rfl) dX4_through_37
    · skip
      refine lv_iconst (v := nI 1) hx hb dX4_through_32 (by decide) ?_
      refine lv_goto (tgt := 37) hx hb dX4_through_33 (by decide) ?_
      refine top_i (y := bI true) (by decide) ?_
      exact ri hx hb hlk hr hw hS (congrArg bI (by simp [thF, h1, h2])) (bI_nar _) (Nat.le_of_ble_eq_true rfl) (Nat.le_of_ble_eq_true rfl) dX4_through_37
set_option maxRecDepth 100000 in
set_option maxHeartbeats 1000000 in
theorem m_overlap (l : Launch) (G : Gm) (S : St) (a : Nat) (ha5 : a < 512) (b : Nat) (hb5 : b < 512) : Pi l yX4_overlap wsX4_overlap ({ frames := 0, cells := 0, slots := 0, locals := 0 } : Room) [.ref (g_ad G 9 0), .int (nI a), .int (nI b)] G S (bI (ovM (mFS S 2) a b)) S := by
  refine ent (cc := cX4_overlap) (maxL := 5) (ret := (some .boolean)) (by decide) rfl (Nat.le_of_ble_eq_true rfl) ?_
  intro p e s m below meth c ls C hw hT hS hl
  obtain ⟨hx, hb, hr, hml, hown, hts, hlk⟩ := C
  have hl : lv_has ls 5 [(0, .ref (g_ad G 9 0)), (1, .int (nI a)), (2, .int (nI b))] := hl
  refine lv_iconst (v := nI 1) hx hb dX4_overlap_0 (by decide) ?_
  refine lv_istore_n (lv' := [(3, .int (nI 1)), (0, .ref (g_ad G 9 0)), (1, .int (nI a)), (2, .int (nI b))]) hx hb dX4_overlap_1 rfl hl (by decide) rfl (fun ls hl => ?_)
  refine lv_iconst (v := nI 0) hx hb dX4_overlap_2 (by decide) ?_
  refine lv_istore (lv' := [(4, .int (nI 0)), (3, .int (nI 1)), (0, .ref (g_ad G 9 0)), (1, .int (nI a)), (2, .int (nI b))]) hx hb dX4_overlap_3 hl (by decide) rfl (fun ls hl => ?_)
  refine lv_iload hx hb dX4_overlap_5 (lv_at hl 0 rfl) ?_
  refine lv_iconst (v := nI 3) hx hb dX4_overlap_7 (by decide) ?_
  refine lv_icmp_ge (tgt := 87) hx hb dX4_overlap_8 (by decide) (fun q => absurd q (by decide)) (fun _ => ?_)
  have K2 : ∀ (b9 : Bool) (H : Heap) (locs : List Loc), b9 = (fLe (mFS S 2 (6 * a + 0)) (mFS S 2 (6 * b + 3 + 0)) && fLe (mFS S 2 (6 * b + 0)) (mFS S 2 (6 * a + 3 + 0))) → wdM G S H s → va_S (g_A G) s.heap H locs → W p l e ({ frames := 0, cells := 0, slots := 0, locals := 0 } : Room) s m ([.ref (g_ad G 9 0), .int (nI a), .int (nI b)] : List Value).toArray below meth c H locs 0 0 (MQ below (Qi G (bI (ovM (mFS S 2) a b)) S) ([.ref (g_ad G 9 0), .int (nI a), .int (nI b)] : List Value).toArray s ({ frames := 0, cells := 0, slots := 0, locals := 0 } : Room).cells ({ frames := 0, cells := 0, slots := 0, locals := 0 } : Room).slots (g_A G)) (F0 m 80 ls [.int (bI b9)]) := by
    intro b9 H locs hb9 hw hS
    subst hb9
    refine lv_istore_n (lv' := [(3, .int (bI (fLe (mFS S 2 (6 * a + 0)) (mFS S 2 (6 * b + 3 + 0)) && fLe (mFS S 2 (6 * b + 0)) (mFS S 2 (6 * a + 3 + 0))))), (4, .int (nI 0)), (0, .ref (g_ad G 9 0)), (1, .int (nI a)), (2, .int (nI b))]) hx hb dX4_overlap_80 rfl hl (by decide) rfl (fun ls hl => ?_)
    refine lv_iinc (v := nI 1) (lv' := [(4, .int (nI 1)), (3, .int (bI (fLe (mFS S 2 (6 * a + 0)) (mFS S 2 (6 * b + 3 + 0)) && fLe (mFS S 2 (6 * b + 0)) (mFS S 2 (6 * a + 3 + 0))))), (0, .ref (g_ad G 9 0)), (1, .int (nI a)), (2, .int (nI b))]) hx hb dX4_overlap_81 hl (k := 1) rfl (by decide) (by decide) rfl (fun ls hl => ?_)
    refine lv_goto (tgt := 5) hx hb dX4_overlap_84 (by decide) ?_
    refine lv_iload hx hb dX4_overlap_5 (lv_at hl 0 rfl) ?_
    refine lv_iconst (v := nI 3) hx hb dX4_overlap_7 (by decide) ?_
    refine lv_icmp_ge (tgt := 87) hx hb dX4_overlap_8 (by decide) (fun q => absurd q (by decide)) (fun _ => ?_)
    have K4 : ∀ (b9 : Bool) (H : Heap) (locs : List Loc), b9 = ((fLe (mFS S 2 (6 * a + 0)) (mFS S 2 (6 * b + 3 + 0)) && fLe (mFS S 2 (6 * b + 0)) (mFS S 2 (6 * a + 3 + 0))) && (fLe (mFS S 2 (6 * a + 1)) (mFS S 2 (6 * b + 3 + 1)) && fLe (mFS S 2 (6 * b + 1)) (mFS S 2 (6 * a + 3 + 1)))) → wdM G S H s → va_S (g_A G) s.heap H locs → W p l e ({ frames := 0, cells := 0, slots := 0, locals := 0 } : Room) s m ([.ref (g_ad G 9 0), .int (nI a), .int (nI b)] : List Value).toArray below meth c H locs 0 0 (MQ below (Qi G (bI (ovM (mFS S 2) a b)) S) ([.ref (g_ad G 9 0), .int (nI a), .int (nI b)] : List Value).toArray s ({ frames := 0, cells := 0, slots := 0, locals := 0 } : Room).cells ({ frames := 0, cells := 0, slots := 0, locals := 0 } : Room).slots (g_A G)) (F0 m 80 ls [.int (bI b9)]) := by
      intro b9 H locs hb9 hw hS
      subst hb9
      refine lv_istore_n (lv' := [(3, .int (bI ((fLe (mFS S 2 (6 * a + 0)) (mFS S 2 (6 * b + 3 + 0)) && fLe (mFS S 2 (6 * b + 0)) (mFS S 2 (6 * a + 3 + 0))) && (fLe (mFS S 2 (6 * a + 1)) (mFS S 2 (6 * b + 3 + 1)) && fLe (mFS S 2 (6 * b + 1)) (mFS S 2 (6 * a + 3 + 1)))))), (4, .int (nI 1)), (0, .ref (g_ad G 9 0)), (1, .int (nI a)), (2, .int (nI b))]) hx hb dX4_overlap_80 rfl hl (by decide) rfl (fun ls hl => ?_)
      refine lv_iinc (v := nI 2) (lv' := [(4, .int (nI 2)), (3, .int (bI ((fLe (mFS S 2 (6 * a + 0)) (mFS S 2 (6 * b + 3 + 0)) && fLe (mFS S 2 (6 * b + 0)) (mFS S 2 (6 * a + 3 + 0))) && (fLe (mFS S 2 (6 * a + 1)) (mFS S 2 (6 * b + 3 + 1)) && fLe (mFS S 2 (6 * b + 1)) (mFS S 2 (6 * a + 3 + 1)))))), (0, .ref (g_ad G 9 0)), (1, .int (nI a)), (2, .int (nI b))]) hx hb dX4_overlap_81 hl (k := 1) rfl (by decide) (by decide) rfl (fun ls hl => ?_)
      refine lv_goto (tgt := 5) hx hb dX4_overlap_84 (by decide) ?_
      refine lv_iload hx hb dX4_overlap_5 (lv_at hl 0 rfl) ?_
      refine lv_iconst (v := nI 3) hx hb dX4_overlap_7 (by decide) ?_
      refine lv_icmp_ge (tgt := 87) hx hb dX4_overlap_8 (by decide) (fun q => absurd q (by decide)) (fun _ => ?_)
      have K6 : ∀ (b9 : Bool) (H : Heap) (locs : List Loc), b9 = (((fLe (mFS S 2 (6 * a + 0)) (mFS S 2 (6 * b + 3 + 0)) && fLe (mFS S 2 (6 * b + 0)) (mFS S 2 (6 * a + 3 + 0))) && (fLe (mFS S 2 (6 * a + 1)) (mFS S 2 (6 * b + 3 + 1)) && fLe (mFS S 2 (6 * b + 1)) (mFS S 2 (6 * a + 3 + 1)))) && (fLe (mFS S 2 (6 * a + 2)) (mFS S 2 (6 * b + 3 + 2)) && fLe (mFS S 2 (6 * b + 2)) (mFS S 2 (6 * a + 3 + 2)))) → wdM G S H s → va_S (g_A G) s.heap H locs → W p l e ({ frames := 0, cells := 0, slots := 0, locals := 0 } : Room) s m ([.ref (g_ad G 9 0), .int (nI a), .int (nI b)] : List Value).toArray below meth c H locs 0 0 (MQ below (Qi G (bI (ovM (mFS S 2) a b)) S) ([.ref (g_ad G 9 0), .int (nI a), .int (nI b)] : List Value).toArray s ({ frames := 0, cells := 0, slots := 0, locals := 0 } : Room).cells ({ frames := 0, cells := 0, slots := 0, locals := 0 } : Room).slots (g_A G)) (F0 m 80 ls [.int (bI b9)]) := by
        intro b9 H locs hb9 hw hS
        subst hb9
        refine lv_istore_n (lv' := [(3, .int (bI (((fLe (mFS S 2 (6 * a + 0)) (mFS S 2 (6 * b + 3 + 0)) && fLe (mFS S 2 (6 * b + 0)) (mFS S 2 (6 * a + 3 + 0))) && (fLe (mFS S 2 (6 * a + 1)) (mFS S 2 (6 * b + 3 + 1)) && fLe (mFS S 2 (6 * b + 1)) (mFS S 2 (6 * a + 3 + 1)))) && (fLe (mFS S 2 (6 * a + 2)) (mFS S 2 (6 * b + 3 + 2)) && fLe (mFS S 2 (6 * b + 2)) (mFS S 2 (6 * a + 3 + 2)))))), (4, .int (nI 2)), (0, .ref (g_ad G 9 0)), (1, .int (nI a)), (2, .int (nI b))]) hx hb dX4_overlap_80 rfl hl (by decide) rfl (fun ls hl => ?_)
        refine lv_iinc (v := nI 3) (lv' := [(4, .int (nI 3)), (3, .int (bI (((fLe (mFS S 2 (6 * a + 0)) (mFS S 2 (6 * b + 3 + 0)) && fLe (mFS S 2 (6 * b + 0)) (mFS S 2 (6 * a + 3 + 0))) && (fLe (mFS S 2 (6 * a + 1)) (mFS S 2 (6 * b + 3 + 1)) && fLe (mFS S 2 (6 * b + 1)) (mFS S 2 (6 * a + 3 + 1)))) && (fLe (mFS S 2 (6 * a + 2)) (mFS S 2 (6 * b + 3 + 2)) && fLe (mFS S 2 (6 * b + 2)) (mFS S 2 (6 * a + 3 + 2)))))), (0, .ref (g_ad G 9 0)), (1, .int (nI a)), (2, .int (nI b))]) hx hb dX4_overlap_81 hl (k := 1) rfl (by decide) (by decide) rfl (fun ls hl => ?_)
        refine lv_goto (tgt := 5) hx hb dX4_overlap_84 (by decide) ?_
        refine lv_iload hx hb dX4_overlap_5 (lv_at hl 0 rfl) ?_
        refine lv_iconst (v := nI 3) hx hb dX4_overlap_7 (by decide) ?_
        refine lv_icmp_ge (tgt := 87) hx hb dX4_overlap_8 (by decide) (fun _ => ?_) (fun q => absurd (by decide) q)
        refine lv_iload_n hx hb dX4_overlap_87 rfl (lv_at hl 1 rfl) ?_
        exact ri hx hb hlk hr hw hS rfl (bI_nar _) (Nat.le_of_ble_eq_true rfl) (Nat.le_of_ble_eq_true rfl) dX4_overlap_88
      refine lv_iload_n hx hb dX4_overlap_11 rfl (lv_at hl 1 rfl) ?_
      refine lv_if_eq (tgt := 79) hx hb dX4_overlap_12 (by decide) (fun h8 => ?_) (fun h8 => ?_)
      · skip
        have h8 := bI_0.mp h8
        refine lv_iconst (v := nI 0) hx hb dX4_overlap_79 (by decide) ?_
        refine top_i (y := bI false) (by decide) ?_
        exact K6 false _ _ (by first | (simp only [h8, Bool.true_and, Bool.false_and, Bool.and_true, Bool.and_false]; done) | simp [h8]) hw hS
      · skip
        have h8 := bI_n0.mp h8
        refine lv_aload_n hx hb dX4_overlap_15 rfl (lv_at hl 2 rfl) ?_
        refine gf hx hb hown hts hw hT 9 0 (by decide) (ci := 4) rfl rfl (fun _ h => List.mem_cons_of_mem _ (List.mem_append_right _ h)) 7 (by decide) (List.mem_of_getElem? (i := 1) rfl) (v := .ref (g_ad G 10 2)) rfl dX4_overlap_16 ?_
        refine lv_bipush (v := nI 6) hx hb dX4_overlap_19 (by decide) ?_
        refine lv_iload_n hx hb dX4_overlap_21 rfl (lv_at hl 3 rfl) ?_
        refine lv_imul hx hb dX4_overlap_22 ?_
        refine top_i (y := nI (6 * a)) (pk_mul 6 a) ?_
        refine lv_iload hx hb dX4_overlap_23 (lv_at hl 0 rfl) ?_
        refine lv_iadd hx hb dX4_overlap_25 ?_
        refine top_i (y := nI (6 * a + 2)) (nI_add (6 * a) 2) ?_
        refine afl hx hb hw hT 10 2 (by decide) (f := mFS S 2) rfl (6 * a + 2) (show 6 * a + 2 < 3072 by omega) (by decide) dX4_overlap_26 ?_
        refine lv_aload_n hx hb dX4_overlap_27 rfl (lv_at hl 2 rfl) ?_
        refine gf hx hb hown hts hw hT 9 0 (by decide) (ci := 4) rfl rfl (fun _ h => List.mem_cons_of_mem _ (List.mem_append_right _ h)) 7 (by decide) (List.mem_of_getElem? (i := 1) rfl) (v := .ref (g_ad G 10 2)) rfl dX4_overlap_28 ?_
        refine lv_bipush (v := nI 6) hx hb dX4_overlap_31 (by decide) ?_
        refine lv_iload_n hx hb dX4_overlap_33 rfl (lv_at hl 4 rfl) ?_
        refine lv_imul hx hb dX4_overlap_34 ?_
        refine top_i (y := nI (6 * b)) (pk_mul 6 b) ?_
        refine lv_iconst (v := nI 3) hx hb dX4_overlap_35 (by decide) ?_
        refine lv_iadd hx hb dX4_overlap_36 ?_
        refine top_i (y := nI (6 * b + 3)) (nI_add (6 * b) 3) ?_
        refine lv_iload hx hb dX4_overlap_37 (lv_at hl 0 rfl) ?_
        refine lv_iadd hx hb dX4_overlap_39 ?_
        refine top_i (y := nI (6 * b + 3 + 2)) (nI_add (6 * b + 3) 2) ?_
        refine afl hx hb hw hT 10 2 (by decide) (f := mFS S 2) rfl (6 * b + 3 + 2) (show 6 * b + 3 + 2 < 3072 by omega) (by decide) dX4_overlap_40 ?_
        refine fc_ggt (x := mFS S 2 (6 * a + 2)) (y := mFS S 2 (6 * b + 3 + 2)) (tgt := 79) hx hb dX4_overlap_41 dX4_overlap_42 (by decide) (fun h9 => ?_) (fun h9 => ?_)
        · skip
          refine lv_iconst (v := nI 0) hx hb dX4_overlap_79 (by decide) ?_
          refine top_i (y := bI false) (by decide) ?_
          exact K6 false _ _ (by first | (simp only [h8, h9, Bool.true_and, Bool.false_and, Bool.and_true, Bool.and_false]; done) | simp [h8, h9]) hw hS
        · skip
          refine lv_aload_n hx hb dX4_overlap_45 rfl (lv_at hl 2 rfl) ?_
          refine gf hx hb hown hts hw hT 9 0 (by decide) (ci := 4) rfl rfl (fun _ h => List.mem_cons_of_mem _ (List.mem_append_right _ h)) 7 (by decide) (List.mem_of_getElem? (i := 1) rfl) (v := .ref (g_ad G 10 2)) rfl dX4_overlap_46 ?_
          refine lv_bipush (v := nI 6) hx hb dX4_overlap_49 (by decide) ?_
          refine lv_iload_n hx hb dX4_overlap_51 rfl (lv_at hl 4 rfl) ?_
          refine lv_imul hx hb dX4_overlap_52 ?_
          refine top_i (y := nI (6 * b)) (pk_mul 6 b) ?_
          refine lv_iload hx hb dX4_overlap_53 (lv_at hl 0 rfl) ?_
          refine lv_iadd hx hb dX4_overlap_55 ?_
          refine top_i (y := nI (6 * b + 2)) (nI_add (6 * b) 2) ?_
          refine afl hx hb hw hT 10 2 (by decide) (f := mFS S 2) rfl (6 * b + 2) (show 6 * b + 2 < 3072 by omega) (by decide) dX4_overlap_56 ?_
          refine lv_aload_n hx hb dX4_overlap_57 rfl (lv_at hl 2 rfl) ?_
          refine gf hx hb hown hts hw hT 9 0 (by decide) (ci := 4) rfl rfl (fun _ h => List.mem_cons_of_mem _ (List.mem_append_right _ h)) 7 (by decide) (List.mem_of_getElem? (i := 1) rfl) (v := .ref (g_ad G 10 2)) rfl dX4_overlap_58 ?_
          refine lv_bipush (v := nI 6) hx hb dX4_overlap_61 (by decide) ?_
          refine lv_iload_n hx hb dX4_overlap_63 rfl (lv_at hl 3 rfl) ?_
          refine lv_imul hx hb dX4_overlap_64 ?_
          refine top_i (y := nI (6 * a)) (pk_mul 6 a) ?_
          refine lv_iconst (v := nI 3) hx hb dX4_overlap_65 (by decide) ?_
          refine lv_iadd hx hb dX4_overlap_66 ?_
          refine top_i (y := nI (6 * a + 3)) (nI_add (6 * a) 3) ?_
          refine lv_iload hx hb dX4_overlap_67 (lv_at hl 0 rfl) ?_
          refine lv_iadd hx hb dX4_overlap_69 ?_
          refine top_i (y := nI (6 * a + 3 + 2)) (nI_add (6 * a + 3) 2) ?_
          refine afl hx hb hw hT 10 2 (by decide) (f := mFS S 2) rfl (6 * a + 3 + 2) (show 6 * a + 3 + 2 < 3072 by omega) (by decide) dX4_overlap_70 ?_
          refine fc_ggt (x := mFS S 2 (6 * b + 2)) (y := mFS S 2 (6 * a + 3 + 2)) (tgt := 79) hx hb dX4_overlap_71 dX4_overlap_72 (by decide) (fun h10 => ?_) (fun h10 => ?_)
          · skip
            refine lv_iconst (v := nI 0) hx hb dX4_overlap_79 (by decide) ?_
            refine top_i (y := bI false) (by decide) ?_
            exact K6 false _ _ (by first | (simp only [h8, h9, h10, Bool.true_and, Bool.false_and, Bool.and_true, Bool.and_false]; done) | simp [h8, h9, h10]) hw hS
          · skip
            refine lv_iconst (v := nI 1) hx hb dX4_overlap_75 (by decide) ?_
            refine lv_goto (tgt := 80) hx hb dX4_overlap_76 (by decide) ?_
            refine top_i (y := bI true) (by decide) ?_
            exact K6 true _ _ (by first | (simp only [h8, h9, h10, Bool.true_and, Bool.false_and, Bool.and_true, Bool.and_false]; done) | simp [h8, h9, h10]) hw hS
    refine lv_iload_n hx hb dX4_overlap_11 rfl (lv_at hl 1 rfl) ?_
    refine lv_if_eq (tgt := 79) hx hb dX4_overlap_12 (by decide) (fun h11 => ?_) (fun h11 => ?_)
    · skip
      have h11 := bI_0.mp h11
      refine lv_iconst (v := nI 0) hx hb dX4_overlap_79 (by decide) ?_
      refine top_i (y := bI false) (by decide) ?_
      exact K4 false _ _ (by first | (simp only [h11, Bool.true_and, Bool.false_and, Bool.and_true, Bool.and_false]; done) | simp [h11]) hw hS
    · skip
      have h11 := bI_n0.mp h11
      refine lv_aload_n hx hb dX4_overlap_15 rfl (lv_at hl 2 rfl) ?_
      refine gf hx hb hown hts hw hT 9 0 (by decide) (ci := 4) rfl rfl (fun _ h => List.mem_cons_of_mem _ (List.mem_append_right _ h)) 7 (by decide) (List.mem_of_getElem? (i := 1) rfl) (v := .ref (g_ad G 10 2)) rfl dX4_overlap_16 ?_
      refine lv_bipush (v := nI 6) hx hb dX4_overlap_19 (by decide) ?_
      refine lv_iload_n hx hb dX4_overlap_21 rfl (lv_at hl 3 rfl) ?_
      refine lv_imul hx hb dX4_overlap_22 ?_
      refine top_i (y := nI (6 * a)) (pk_mul 6 a) ?_
      refine lv_iload hx hb dX4_overlap_23 (lv_at hl 0 rfl) ?_
      refine lv_iadd hx hb dX4_overlap_25 ?_
      refine top_i (y := nI (6 * a + 1)) (nI_add (6 * a) 1) ?_
      refine afl hx hb hw hT 10 2 (by decide) (f := mFS S 2) rfl (6 * a + 1) (show 6 * a + 1 < 3072 by omega) (by decide) dX4_overlap_26 ?_
      refine lv_aload_n hx hb dX4_overlap_27 rfl (lv_at hl 2 rfl) ?_
      refine gf hx hb hown hts hw hT 9 0 (by decide) (ci := 4) rfl rfl (fun _ h => List.mem_cons_of_mem _ (List.mem_append_right _ h)) 7 (by decide) (List.mem_of_getElem? (i := 1) rfl) (v := .ref (g_ad G 10 2)) rfl dX4_overlap_28 ?_
      refine lv_bipush (v := nI 6) hx hb dX4_overlap_31 (by decide) ?_
      refine lv_iload_n hx hb dX4_overlap_33 rfl (lv_at hl 4 rfl) ?_
      refine lv_imul hx hb dX4_overlap_34 ?_
      refine top_i (y := nI (6 * b)) (pk_mul 6 b) ?_
      refine lv_iconst (v := nI 3) hx hb dX4_overlap_35 (by decide) ?_
      refine lv_iadd hx hb dX4_overlap_36 ?_
      refine top_i (y := nI (6 * b + 3)) (nI_add (6 * b) 3) ?_
      refine lv_iload hx hb dX4_overlap_37 (lv_at hl 0 rfl) ?_
      refine lv_iadd hx hb dX4_overlap_39 ?_
      refine top_i (y := nI (6 * b + 3 + 1)) (nI_add (6 * b + 3) 1) ?_
      refine afl hx hb hw hT 10 2 (by decide) (f := mFS S 2) rfl (6 * b + 3 + 1) (show 6 * b + 3 + 1 < 3072 by omega) (by decide) dX4_overlap_40 ?_
      refine fc_ggt (x := mFS S 2 (6 * a + 1)) (y := mFS S 2 (6 * b + 3 + 1)) (tgt := 79) hx hb dX4_overlap_41 dX4_overlap_42 (by decide) (fun h12 => ?_) (fun h12 => ?_)
      · skip
        refine lv_iconst (v := nI 0) hx hb dX4_overlap_79 (by decide) ?_
        refine top_i (y := bI false) (by decide) ?_
        exact K4 false _ _ (by first | (simp only [h11, h12, Bool.true_and, Bool.false_and, Bool.and_true, Bool.and_false]; done) | simp [h11, h12]) hw hS
      · skip
        refine lv_aload_n hx hb dX4_overlap_45 rfl (lv_at hl 2 rfl) ?_
        refine gf hx hb hown hts hw hT 9 0 (by decide) (ci := 4) rfl rfl (fun _ h => List.mem_cons_of_mem _ (List.mem_append_right _ h)) 7 (by decide) (List.mem_of_getElem? (i := 1) rfl) (v := .ref (g_ad G 10 2)) rfl dX4_overlap_46 ?_
        refine lv_bipush (v := nI 6) hx hb dX4_overlap_49 (by decide) ?_
        refine lv_iload_n hx hb dX4_overlap_51 rfl (lv_at hl 4 rfl) ?_
        refine lv_imul hx hb dX4_overlap_52 ?_
        refine top_i (y := nI (6 * b)) (pk_mul 6 b) ?_
        refine lv_iload hx hb dX4_overlap_53 (lv_at hl 0 rfl) ?_
        refine lv_iadd hx hb dX4_overlap_55 ?_
        refine top_i (y := nI (6 * b + 1)) (nI_add (6 * b) 1) ?_
        refine afl hx hb hw hT 10 2 (by decide) (f := mFS S 2) rfl (6 * b + 1) (show 6 * b + 1 < 3072 by omega) (by decide) dX4_overlap_56 ?_
        refine lv_aload_n hx hb dX4_overlap_57 rfl (lv_at hl 2 rfl) ?_
        refine gf hx hb hown hts hw hT 9 0 (by decide) (ci := 4) rfl rfl (fun _ h => List.mem_cons_of_mem _ (List.mem_append_right _ h)) 7 (by decide) (List.mem_of_getElem? (i := 1) rfl) (v := .ref (g_ad G 10 2)) rfl dX4_overlap_58 ?_
        refine lv_bipush (v := nI 6) hx hb dX4_overlap_61 (by decide) ?_
        refine lv_iload_n hx hb dX4_overlap_63 rfl (lv_at hl 3 rfl) ?_
        refine lv_imul hx hb dX4_overlap_64 ?_
        refine top_i (y := nI (6 * a)) (pk_mul 6 a) ?_
        refine lv_iconst (v := nI 3) hx hb dX4_overlap_65 (by decide) ?_
        refine lv_iadd hx hb dX4_overlap_66 ?_
        refine top_i (y := nI (6 * a + 3)) (nI_add (6 * a) 3) ?_
        refine lv_iload hx hb dX4_overlap_67 (lv_at hl 0 rfl) ?_
        refine lv_iadd hx hb dX4_overlap_69 ?_
        refine top_i (y := nI (6 * a + 3 + 1)) (nI_add (6 * a + 3) 1) ?_
        refine afl hx hb hw hT 10 2 (by decide) (f := mFS S 2) rfl (6 * a + 3 + 1) (show 6 * a + 3 + 1 < 3072 by omega) (by decide) dX4_overlap_70 ?_
        refine fc_ggt (x := mFS S 2 (6 * b + 1)) (y := mFS S 2 (6 * a + 3 + 1)) (tgt := 79) hx hb dX4_overlap_71 dX4_overlap_72 (by decide) (fun h13 => ?_) (fun h13 => ?_)
        · skip
          refine lv_iconst (v := nI 0) hx hb dX4_overlap_79 (by decide) ?_
          refine top_i (y := bI false) (by decide) ?_
          exact K4 false _ _ (by first | (simp only [h11, h12, h13, Bool.true_and, Bool.false_and, Bool.and_true, Bool.and_false]; done) | simp [h11, h12, h13]) hw hS
        · skip
          refine lv_iconst (v := nI 1) hx hb dX4_overlap_75 (by decide) ?_
          refine lv_goto (tgt := 80) hx hb dX4_overlap_76 (by decide) ?_
          refine top_i (y := bI true) (by decide) ?_
          exact K4 true _ _ (by first | (simp only [h11, h12, h13, Bool.true_and, Bool.false_and, Bool.and_true, Bool.and_false]; done) | simp [h11, h12, h13]) hw hS
  refine lv_iload_n hx hb dX4_overlap_11 rfl (lv_at hl 1 rfl) ?_
  refine lv_if_eq (tgt := 79) hx hb dX4_overlap_12 (by decide) (fun q => absurd q (by decide)) (fun _ => ?_)
  refine lv_aload_n hx hb dX4_overlap_15 rfl (lv_at hl 2 rfl) ?_
  refine gf hx hb hown hts hw hT 9 0 (by decide) (ci := 4) rfl rfl (fun _ h => List.mem_cons_of_mem _ (List.mem_append_right _ h)) 7 (by decide) (List.mem_of_getElem? (i := 1) rfl) (v := .ref (g_ad G 10 2)) rfl dX4_overlap_16 ?_
  refine lv_bipush (v := nI 6) hx hb dX4_overlap_19 (by decide) ?_
  refine lv_iload_n hx hb dX4_overlap_21 rfl (lv_at hl 3 rfl) ?_
  refine lv_imul hx hb dX4_overlap_22 ?_
  refine top_i (y := nI (6 * a)) (pk_mul 6 a) ?_
  refine lv_iload hx hb dX4_overlap_23 (lv_at hl 0 rfl) ?_
  refine lv_iadd hx hb dX4_overlap_25 ?_
  refine top_i (y := nI (6 * a + 0)) (nI_add (6 * a) 0) ?_
  refine afl hx hb hw hT 10 2 (by decide) (f := mFS S 2) rfl (6 * a + 0) (show 6 * a + 0 < 3072 by omega) (by decide) dX4_overlap_26 ?_
  refine lv_aload_n hx hb dX4_overlap_27 rfl (lv_at hl 2 rfl) ?_
  refine gf hx hb hown hts hw hT 9 0 (by decide) (ci := 4) rfl rfl (fun _ h => List.mem_cons_of_mem _ (List.mem_append_right _ h)) 7 (by decide) (List.mem_of_getElem? (i := 1) rfl) (v := .ref (g_ad G 10 2)) rfl dX4_overlap_28 ?_
  refine lv_bipush (v := nI 6) hx hb dX4_overlap_31 (by decide) ?_
  refine lv_iload_n hx hb dX4_overlap_33 rfl (lv_at hl 4 rfl) ?_
  refine lv_imul hx hb dX4_overlap_34 ?_
  refine top_i (y := nI (6 * b)) (pk_mul 6 b) ?_
  refine lv_iconst (v := nI 3) hx hb dX4_overlap_35 (by decide) ?_
  refine lv_iadd hx hb dX4_overlap_36 ?_
  refine top_i (y := nI (6 * b + 3)) (nI_add (6 * b) 3) ?_
  refine lv_iload hx hb dX4_overlap_37 (lv_at hl 0 rfl) ?_
  refine lv_iadd hx hb dX4_overlap_39 ?_
  refine top_i (y := nI (6 * b + 3 + 0)) (nI_add (6 * b + 3) 0) ?_
  refine afl hx hb hw hT 10 2 (by decide) (f := mFS S 2) rfl (6 * b + 3 + 0) (show 6 * b + 3 + 0 < 3072 by omega) (by decide) dX4_overlap_40 ?_
  refine fc_ggt (x := mFS S 2 (6 * a + 0)) (y := mFS S 2 (6 * b + 3 + 0)) (tgt := 79) hx hb dX4_overlap_41 dX4_overlap_42 (by decide) (fun h15 => ?_) (fun h15 => ?_)
  · skip
    refine lv_iconst (v := nI 0) hx hb dX4_overlap_79 (by decide) ?_
    refine top_i (y := bI false) (by decide) ?_
    exact K2 false _ _ (by first | (simp only [h15, Bool.true_and, Bool.false_and, Bool.and_true, Bool.and_false]; done) | simp [h15]) hw hS
  · skip
    refine lv_aload_n hx hb dX4_overlap_45 rfl (lv_at hl 2 rfl) ?_
    refine gf hx hb hown hts hw hT 9 0 (by decide) (ci := 4) rfl rfl (fun _ h => List.mem_cons_of_mem _ (List.mem_append_right _ h)) 7 (by decide) (List.mem_of_getElem? (i := 1) rfl) (v := .ref (g_ad G 10 2)) rfl dX4_overlap_46 ?_
    refine lv_bipush (v := nI 6) hx hb dX4_overlap_49 (by decide) ?_
    refine lv_iload_n hx hb dX4_overlap_51 rfl (lv_at hl 4 rfl) ?_
    refine lv_imul hx hb dX4_overlap_52 ?_
    refine top_i (y := nI (6 * b)) (pk_mul 6 b) ?_
    refine lv_iload hx hb dX4_overlap_53 (lv_at hl 0 rfl) ?_
    refine lv_iadd hx hb dX4_overlap_55 ?_
    refine top_i (y := nI (6 * b + 0)) (nI_add (6 * b) 0) ?_
    refine afl hx hb hw hT 10 2 (by decide) (f := mFS S 2) rfl (6 * b + 0) (show 6 * b + 0 < 3072 by omega) (by decide) dX4_overlap_56 ?_
    refine lv_aload_n hx hb dX4_overlap_57 rfl (lv_at hl 2 rfl) ?_
    refine gf hx hb hown hts hw hT 9 0 (by decide) (ci := 4) rfl rfl (fun _ h => List.mem_cons_of_mem _ (List.mem_append_right _ h)) 7 (by decide) (List.mem_of_getElem? (i := 1) rfl) (v := .ref (g_ad G 10 2)) rfl dX4_overlap_58 ?_
    refine lv_bipush (v := nI 6) hx hb dX4_overlap_61 (by decide) ?_
    refine lv_iload_n hx hb dX4_overlap_63 rfl (lv_at hl 3 rfl) ?_
    refine lv_imul hx hb dX4_overlap_64 ?_
    refine top_i (y := nI (6 * a)) (pk_mul 6 a) ?_
    refine lv_iconst (v := nI 3) hx hb dX4_overlap_65 (by decide) ?_
    refine lv_iadd hx hb dX4_overlap_66 ?_
    refine top_i (y := nI (6 * a + 3)) (nI_add (6 * a) 3) ?_
    refine lv_iload hx hb dX4_overlap_67 (lv_at hl 0 rfl) ?_
    refine lv_iadd hx hb dX4_overlap_69 ?_
    refine top_i (y := nI (6 * a + 3 + 0)) (nI_add (6 * a + 3) 0) ?_
    refine afl hx hb hw hT 10 2 (by decide) (f := mFS S 2) rfl (6 * a + 3 + 0) (show 6 * a + 3 + 0 < 3072 by omega) (by decide) dX4_overlap_70 ?_
    refine fc_ggt (x := mFS S 2 (6 * b + 0)) (y := mFS S 2 (6 * a + 3 + 0)) (tgt := 79) hx hb dX4_overlap_71 dX4_overlap_72 (by decide) (fun h16 => ?_) (fun h16 => ?_)
    · skip
      refine lv_iconst (v := nI 0) hx hb dX4_overlap_79 (by decide) ?_
      refine top_i (y := bI false) (by decide) ?_
      exact K2 false _ _ (by first | (simp only [h15, h16, Bool.true_and, Bool.false_and, Bool.and_true, Bool.and_false]; done) | simp [h15, h16]) hw hS
    · skip
      refine lv_iconst (v := nI 1) hx hb dX4_overlap_75 (by decide) ?_
      refine lv_goto (tgt := 80) hx hb dX4_overlap_76 (by decide) ?_
      refine top_i (y := bI true) (by decide) ?_
      exact K2 true _ _ (by first | (simp only [h15, h16, Bool.true_and, Bool.false_and, Bool.and_true, Bool.and_false]; done) | simp [h15, h16]) hw hS
