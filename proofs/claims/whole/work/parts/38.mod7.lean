/-! The model: shift, addRow -/
def bcF6 (t f : Nat → UInt32) (b : Nat) : Nat → UInt32 := va_up (va_up (va_up (va_up (va_up (va_up f 0 (t (6 * b + 0))) 1 (t (6 * b + 1))) 2 (t (6 * b + 2))) 3 (t (6 * b + 3))) 4 (t (6 * b + 4))) 5 (t (6 * b + 5))
def bcS (S : St) (b : Nat) : St := mFU S (va_up (mFS S) 4 (bcF6 (mFS S 1) (mFS S 4) b))
theorem bc_at {t f : Nat → UInt32} {b : Nat} : ∀ k, k < 6 → bcF6 t f b k = t (6 * b + k) := six rfl rfl rfl rfl rfl rfl
def Tg (S : St) : Prop := ∀ k, k < 512 → ∀ j, j < 6 → Mg 142 (mFS S 1 (6 * k + j))
theorem bc_gb {S : St} {b : Nat} (h : Tg S) (hb : b < 512) : Gb (mFS (bcS S b) 4) := by
  intro k hk
  show Mg 142 (bcF6 (mFS S 1) (mFS S 4) b k)
  rw [bc_at k hk]
  exact h b hb k hk
theorem gn_gb {f : Nat → UInt32} {dx dy dz : UInt32} (h : gnF f dx dy dz = true) : Gb (mvF f dx dy dz) := by
  unfold gnF at h
  simp only [go_wi, Bool.and_eq_true] at h
  exact six (wi16 h.1.1.1.1.1) (wi16 h.1.1.1.1.2) (wi16 h.1.1.1.2) (wi16 h.1.1.2) (wi16 h.1.2) (wi16 h.2)
def s1M (S : St) (i : Nat) (dx dy dz : UInt32) : St := if mZS (bcS S i) 0 i = true then (if gnF (mFS (bcS S i) 4) dx dy dz = true then moM (gnS (bcS S i) dx dy dz) i dx dy dz else gnS (bcS S i) dx dy dz) else bcS S i
def s1B (S : St) (i : Nat) (dx dy dz : UInt32) : Bool := mZS (bcS S i) 0 i && (gnF (mFS (bcS S i) 4) dx dy dz && !(moF (mFS (gnS (bcS S i) dx dy dz) 4) (mFS (gnS (bcS S i) dx dy dz) 2) i))
def shN (dx dy dz : UInt32) : Nat → Nat → St → Int32 → St × Int32
  | 0, _, S, c => (S, c)
  | n + 1, i, S, c => shN dx dy dz n (i + 1) (s1M S i dx dy dz) (if s1B S i dx dy dz = true then c + nI 1 else c)
theorem sh_y {dx dy dz : UInt32} {n i : Nat} {S X : St} {q : Int32} (hX : X = s1M S i dx dy dz) (h : s1B S i dx dy dz = true) : shN dx dy dz (n + 1) i S q = shN dx dy dz n (i + 1) X (q + nI 1) := by rw [shN, if_pos h, hX]
theorem sh_n {dx dy dz : UInt32} {n i : Nat} {S X : St} {q : Int32} (hX : X = s1M S i dx dy dz) (h : s1B S i dx dy dz = false) : shN dx dy dz (n + 1) i S q = shN dx dy dz n (i + 1) X q := by rw [shN, if_neg (by rw [h]; decide), hX]
def sfB (fr tt : Int32) : Bool := !(decide (fr < 0)) && (decide (tt < nI 512) && !(decide (tt < fr)))
theorem sf_nat {fr tt : Int32} (h : sfB fr tt = true) : ∃ a b, a ≤ b ∧ b < 512 ∧ fr = nI a ∧ tt = nI b := by
  unfold sfB at h
  simp only [Bool.and_eq_true, Bool.not_eq_true', decide_eq_false_iff_not, decide_eq_true_eq] at h
  obtain ⟨a, ha, rfl⟩ := nI_of h.1
  have h0 : ¬ tt < 0 := fun q => h.2.2 (Int32.lt_of_lt_of_le q (nI_pos' ha))
  obtain ⟨b, hb, rfl⟩ := nI_of h0
  have hb5 := (nI_ltI hb (by decide)).mp h.2.1
  refine ⟨a, b, ?_, hb5, rfl, rfl⟩
  rcases Nat.lt_or_ge b a with q | q
  · exact absurd (nI_lt q ha) h.2.2
  · exact q
def shMS (S : St) (fr tt : Int32) (dx dy dz : UInt32) : St := if (sfB fr tt && slF dx dy dz) = true then (shN dx dy dz (kN tt + 1 - kN fr) (kN fr) (okS S) (nI 0)).1 else gsS S (sfB fr tt) (slF dx dy dz)
def shMI (S : St) (fr tt : Int32) (dx dy dz : UInt32) : Int32 := if (sfB fr tt && slF dx dy dz) = true then (shN dx dy dz (kN tt + 1 - kN fr) (kN fr) (okS S) (nI 0)).2 else nI 0
theorem va_up_lt {α : Type} {f : Nat → α} {k j : Nat} {x : α} (h : j ≠ k) : va_up f k x j = f j := va_up_ne _ _ h
theorem cp_row {t f : Nat → UInt32} {b : Nat} : ∀ k, k < 6 → cpR t f b (6 * b + k) = f k := by
  refine six ?_ ?_ ?_ ?_ ?_ ?_
  all_goals
    unfold cpR
    repeat (first | rw [va_up_self] | rw [va_up_lt (by omega)])
theorem cp_other {t f : Nat → UInt32} {b q : Nat} (h : q < 6 * b ∨ 6 * b + 6 ≤ q) : cpR t f b q = t q := by
  unfold cpR
  rw [va_up_lt (by omega), va_up_lt (by omega), va_up_lt (by omega), va_up_lt (by omega), va_up_lt (by omega), va_up_lt (by omega)]
theorem tg_tg {S : St} {b : Nat} (h : Tg S) (hG : Gb (mFS S 4)) : Tg (tgS S b) := by
  intro k hk j hj
  show Mg 142 (cpR (mFS S 1) (mFS S 4) b (6 * k + j))
  by_cases q : k = b
  · subst q; rw [cp_row j hj]; exact hG j hj
  · rw [cp_other (by omega)]; exact h k hk j hj
theorem wn_j {S : St} {b k j : Nat} {d : UInt32} (h : j ≠ 2) : mFS (wnS S b k d) j = mFS S j := by
  unfold wnS; rw [mF_mF, va_up_ne _ _ h]
theorem wn_z {S : St} {b k : Nat} {d : UInt32} : mZS (wnS S b k d) = mZS S := by unfold wnS; rw [mZ_mF]
theorem tg_1 {S : St} {b : Nat} : mFS (tgS S b) 1 = cpR (mFS S 1) (mFS S 4) b := by unfold tgS; rw [mF_mF, va_up_self]
theorem tg_j {S : St} {b j : Nat} (h : j ≠ 1) : mFS (tgS S b) j = mFS S j := by unfold tgS; rw [mF_mF, va_up_ne _ _ h]
theorem tg_z {S : St} {b : Nat} : mZS (tgS S b) = mZS S := by unfold tgS; rw [mZ_mF]
theorem se_j {S : St} {b j : Nat} {dx dy dz : UInt32} (h : j ≠ 2) : mFS (seS S b dx dy dz) j = mFS (tgS S b) j := by
  unfold seS
  rw [mF_mZ]
  unfold seT
  rw [wn_j h, wn_j h, wn_j h]
theorem se_1 {S : St} {b : Nat} {dx dy dz : UInt32} : mFS (seS S b dx dy dz) 1 = mFS (tgS S b) 1 := se_j (by decide)
theorem se_4 {S : St} {b : Nat} {dx dy dz : UInt32} : mFS (seS S b dx dy dz) 4 = mFS S 4 := (se_j (by decide)).trans (tg_j (by decide))
theorem se_z0 {S : St} {b : Nat} {dx dy dz : UInt32} : mZS (seS S b dx dy dz) 0 = mZS S 0 := by
  unfold seS
  rw [mZ_mZ, va_up_ne _ _ (by decide)]
  unfold seT
  rw [wn_z, wn_z, wn_z, tg_z]
theorem mo_tg {S : St} {b : Nat} {dx dy dz : UInt32} (h : Tg S) (hG : Gb (mFS S 4)) : Tg (moM S b dx dy dz) := by
  unfold moM
  split
  · exact tg_tg h hG
  · refine tg_tg ?_ (by rw [se_4]; exact hG)
    intro k hk j hj
    rw [se_1]
    exact tg_tg h hG k hk j hj
theorem s1_tg {S : St} {i : Nat} {dx dy dz : UInt32} (h : Tg S) : Tg (s1M S i dx dy dz) := by
  have h1 : Tg (bcS S i) := h
  have h2 : Tg (gnS (bcS S i) dx dy dz) := h
  unfold s1M
  split
  · split
    · next q => exact mo_tg h2 (gn_gb q)
    · exact h2
  · exact h1
set_option maxRecDepth 100000 in
set_option maxHeartbeats 1000000 in
theorem m_shift (l : Launch) (G : Gm) (S : St) (hG0 : Tg S) (fr tt : Int32) (dx dy dz : UInt32) : Pi l yX4_shift wsX4_shift ({ frames := 3, cells := 0, slots := 0, locals := 76 } : Room) [.ref (g_ad G 9 0), .int fr, .int tt, .float dx, .float dy, .float dz] G S (shMI S fr tt dx dy dz) (shMS S fr tt dx dy dz) := by
  refine ent (cc := cX4_shift) (maxL := 9) (ret := (some .int)) (by decide) rfl (Nat.le_of_ble_eq_true rfl) ?_
  intro p e s m below meth c ls C hw hT hS hl
  obtain ⟨hx, hb, hr, hml, hown, hts, hlk⟩ := C
  have hl : lv_has ls 9 [(0, .ref (g_ad G 9 0)), (1, .int fr), (2, .int tt), (3, .float dx), (4, .float dy), (5, .float dz)] := hl
  refine lv_aload_n hx hb dX4_shift_0 rfl (lv_at hl 0 rfl) ?_
  have K1 : ∀ (b9 : Bool) (H : Heap) (locs : List Loc), b9 = (sfB fr tt) → wdM G S H s → va_S (g_A G) s.heap H locs → W p l e ({ frames := 3, cells := 0, slots := 0, locals := 76 } : Room) s m ([.ref (g_ad G 9 0), .int fr, .int tt, .float dx, .float dy, .float dz] : List Value).toArray below meth c H locs 0 0 (MQ below (Qi G (shMI S fr tt dx dy dz) (shMS S fr tt dx dy dz)) ([.ref (g_ad G 9 0), .int fr, .int tt, .float dx, .float dy, .float dz] : List Value).toArray s ({ frames := 3, cells := 0, slots := 0, locals := 76 } : Room).cells ({ frames := 3, cells := 0, slots := 0, locals := 76 } : Room).slots (g_A G)) (F0 m 22 ls [.int (bI b9), .ref (g_ad G 9 0)]) := by
    intro b9 H locs hb9 hw hS
    subst hb9
    refine lv_fload_n hx hb dX4_shift_22 rfl (lv_at hl 3 rfl) ?_
    refine lv_fload hx hb dX4_shift_23 (lv_at hl 4 rfl) ?_
    refine lv_fload hx hb dX4_shift_25 (lv_at hl 5 rfl) ?_
    refine cSi ⟨hx, hb, hml, hown, hts⟩ (m_slow l G S dx dy dz) (va_cwS 3 hts gX4_shift_X4_slow rfl rfl rfl (by decide +kernel) ⟨(Nat.le_of_ble_eq_true rfl), (Nat.le_of_ble_eq_true rfl)⟩) hw hT hS (As := [.float dx, .float dy, .float dz]) (rest := [.int (bI (sfB fr tt)), .ref (g_ad G 9 0)]) rfl hl.1 rfl (Nat.le_of_ble_eq_true rfl) dX4_shift_27 ⟨(Nat.le_of_ble_eq_true rfl), (Nat.le_of_ble_eq_true rfl)⟩ (fun H locs hw hS => ?_)
    refine cVi ⟨hx, hb, hml, hown, hts⟩ (m_goes l G S (sfB fr tt) (slF dx dy dz)) (cwV 2 hts gX4_shift_X4_goes rfl rfl rfl (by decide +kernel) ⟨(Nat.le_of_ble_eq_true rfl), (Nat.le_of_ble_eq_true rfl)⟩) hw hT hS (rcv hw hT 9 0 (by decide) rfl rfl) (As := [.int (bI (sfB fr tt)), .int (bI (slF dx dy dz))]) (rest := []) rfl hl.1 rfl (Nat.le_of_ble_eq_true rfl) dX4_shift_30 ⟨(Nat.le_of_ble_eq_true rfl), (Nat.le_of_ble_eq_true rfl)⟩ (fun H locs hw hS => ?_)
    refine lv_if_ne (tgt := 38) hx hb dX4_shift_33 (by decide) (fun h2 => ?_) (fun h2 => ?_)
    · skip
      have h2 := bI_n0.mp h2
      replace hw : wdM G (okS S) H s := by rw [gs_ok h2] at hw; exact hw
      obtain ⟨fn, tn, hft, htn, rfl, rfl⟩ := sf_nat (and_l h2)
      have hmv := sl_mv (and_r h2)
      have fN9 : kN (nI fn) = fn := kN_nI (by omega)
      have tN9 : kN (nI tn) = tn := kN_nI (by omega)
      refine lv_iconst (v := nI 0) hx hb dX4_shift_38 (by decide) ?_
      refine lv_istore (lv' := [(6, .int (nI 0)), (0, .ref (g_ad G 9 0)), (1, .int (nI fn)), (2, .int (nI tn)), (3, .float dx), (4, .float dy), (5, .float dz)]) hx hb dX4_shift_39 hl (by decide) rfl (fun ls hl => ?_)
      refine lv_iload_n hx hb dX4_shift_41 rfl (lv_at hl 2 rfl) ?_
      refine lv_istore (lv' := [(7, .int (nI fn)), (6, .int (nI 0)), (0, .ref (g_ad G 9 0)), (1, .int (nI fn)), (2, .int (nI tn)), (3, .float dx), (4, .float dy), (5, .float dz)]) hx hb dX4_shift_42 hl (by decide) rfl (fun ls hl => ?_)
      have LOOP : ∀ (n i : Nat) (S2 : St) (cq : Int32) (H : Heap) (locs : List Loc) (ls : Array Slot), i + n = tn + 1 → (shN dx dy dz n i S2 cq = shN dx dy dz (tn + 1 - fn) fn (okS S) (nI 0)) → (Tg S2) → wdM G S2 H s → va_S (g_A G) s.heap H locs → lv_has ls 9 [(7, .int (nI i)), (6, .int cq), (0, .ref (g_ad G 9 0)), (2, .int (nI tn)), (3, .float dx), (4, .float dy), (5, .float dz), (1, .int (nI fn))] → W p l e ({ frames := 3, cells := 0, slots := 0, locals := 76 } : Room) s m ([.ref (g_ad G 9 0), .int (nI fn), .int (nI tn), .float dx, .float dy, .float dz] : List Value).toArray below meth c H locs 0 0 (MQ below (Qi G (shMI S (nI fn) (nI tn) dx dy dz) (shMS S (nI fn) (nI tn) dx dy dz)) ([.ref (g_ad G 9 0), .int (nI fn), .int (nI tn), .float dx, .float dy, .float dz] : List Value).toArray s ({ frames := 3, cells := 0, slots := 0, locals := 76 } : Room).cells ({ frames := 3, cells := 0, slots := 0, locals := 76 } : Room).slots (g_A G)) (F0 m 44 ls []) := by
        intro n
        induction n with
        | zero =>
          intro i S2 cq H locs ls hn hq hG hw hS hl
          obtain rfl : tn + 1 = i := by omega
          refine lv_iload hx hb dX4_shift_44 (lv_at hl 0 rfl) ?_
          refine lv_iload_n hx hb dX4_shift_46 rfl (lv_at hl 3 rfl) ?_
          refine lv_icmp_gt (tgt := 151) hx hb dX4_shift_47 (by decide) (fun _ => ?_) (fun q => absurd (nI_lt (show tn < tn + 1 by omega) (by omega)) q)
          refine lv_iload hx hb dX4_shift_151 (lv_at hl 1 rfl) ?_
          exact ri hx hb hlk hr (by unfold shMS; rw [if_pos h2, fN9, tN9, ← hq]; exact hw) hS (by unfold shMI; rw [if_pos h2, fN9, tN9, ← hq]; rfl) (vp_nar_int _) (Nat.le_of_ble_eq_true rfl) (Nat.le_of_ble_eq_true rfl) dX4_shift_153
        | succ n ih =>
          intro i S2 cq H locs ls hn hq hG hw hS hl
          have hi : i < tn + 1 := by omega
          refine lv_iload hx hb dX4_shift_44 (lv_at hl 0 rfl) ?_
          refine lv_iload_n hx hb dX4_shift_46 rfl (lv_at hl 3 rfl) ?_
          refine lv_icmp_gt (tgt := 151) hx hb dX4_shift_47 (by decide) (fun q => absurd q (nI_nlt (show i ≤ tn by omega) (by omega))) (fun _ => ?_)
          refine lv_iconst (v := nI 0) hx hb dX4_shift_50 (by decide) ?_
          refine lv_istore (lv' := [(8, .int (nI 0)), (7, .int (nI i)), (6, .int cq), (0, .ref (g_ad G 9 0)), (2, .int (nI tn)), (3, .float dx), (4, .float dy), (5, .float dz), (1, .int (nI fn))]) hx hb dX4_shift_51 hl (by decide) rfl (fun ls hl => ?_)
          refine lv_iload hx hb dX4_shift_53 (lv_at hl 0 rfl) ?_
          refine lv_bipush (v := nI 6) hx hb dX4_shift_55 (by decide) ?_
          refine lv_icmp_ge (tgt := 86) hx hb dX4_shift_57 (by decide) (fun q => absurd q (by decide)) (fun _ => ?_)
          refine lv_aload_n hx hb dX4_shift_60 rfl (lv_at hl 3 rfl) ?_
          refine gf hx hb hown hts hw hT 9 0 (by decide) (ci := 4) rfl rfl (fun _ h => List.mem_cons_of_mem _ (List.mem_append_right _ h)) 16 (by decide) (List.mem_of_getElem? (i := 1) rfl) (v := .ref (g_ad G 10 4)) rfl dX4_shift_61 ?_
          refine lv_iload hx hb dX4_shift_64 (lv_at hl 0 rfl) ?_
          refine lv_aload_n hx hb dX4_shift_66 rfl (lv_at hl 3 rfl) ?_
          refine gf hx hb hown hts hw hT 9 0 (by decide) (ci := 4) rfl rfl (fun _ h => List.mem_cons_of_mem _ (List.mem_append_right _ h)) 6 (by decide) (List.mem_of_getElem? (i := 2) rfl) (v := .ref (g_ad G 10 1)) rfl dX4_shift_67 ?_
          refine lv_bipush (v := nI 6) hx hb dX4_shift_70 (by decide) ?_
          refine lv_iload hx hb dX4_shift_72 (lv_at hl 1 rfl) ?_
          refine lv_imul hx hb dX4_shift_74 ?_
          refine top_i (y := nI (6 * i)) (pk_mul 6 i) ?_
          refine lv_iload hx hb dX4_shift_75 (lv_at hl 0 rfl) ?_
          refine lv_iadd hx hb dX4_shift_77 ?_
          refine top_i (y := nI (6 * i + 0)) (nI_add (6 * i) 0) ?_
          refine afl hx hb hw hT 10 1 (by decide) (f := mFS S2 1) rfl (6 * i + 0) (show 6 * i + 0 < 3072 by omega) (by decide) dX4_shift_78 ?_
          refine afs (S' := (mFU S2 (va_up (mFS S2) 4 (va_up (mFS S2 4) 0 (mFS S2 1 (6 * i + 0)))))) hx hb hw hT hS 10 4 (by decide) (f := mFS S2 4) rfl 0 (by decide) (by decide) (mup_mF G S2 4 (va_up (mFS S2 4) 0 (mFS S2 1 (6 * i + 0)))) dX4_shift_79 (fun H locs hw hS => ?_)
          refine lv_iinc (v := nI 1) (lv' := [(8, .int (nI 1)), (7, .int (nI i)), (6, .int cq), (0, .ref (g_ad G 9 0)), (2, .int (nI tn)), (3, .float dx), (4, .float dy), (5, .float dz), (1, .int (nI fn))]) hx hb dX4_shift_80 hl (k := 0) rfl (by decide) (by decide) rfl (fun ls hl => ?_)
          refine lv_goto (tgt := 53) hx hb dX4_shift_83 (by decide) ?_
          refine lv_iload hx hb dX4_shift_53 (lv_at hl 0 rfl) ?_
          refine lv_bipush (v := nI 6) hx hb dX4_shift_55 (by decide) ?_
          refine lv_icmp_ge (tgt := 86) hx hb dX4_shift_57 (by decide) (fun q => absurd q (by decide)) (fun _ => ?_)
          refine lv_aload_n hx hb dX4_shift_60 rfl (lv_at hl 3 rfl) ?_
          refine gf hx hb hown hts hw hT 9 0 (by decide) (ci := 4) rfl rfl (fun _ h => List.mem_cons_of_mem _ (List.mem_append_right _ h)) 16 (by decide) (List.mem_of_getElem? (i := 1) rfl) (v := .ref (g_ad G 10 4)) rfl dX4_shift_61 ?_
          refine lv_iload hx hb dX4_shift_64 (lv_at hl 0 rfl) ?_
          refine lv_aload_n hx hb dX4_shift_66 rfl (lv_at hl 3 rfl) ?_
          refine gf hx hb hown hts hw hT 9 0 (by decide) (ci := 4) rfl rfl (fun _ h => List.mem_cons_of_mem _ (List.mem_append_right _ h)) 6 (by decide) (List.mem_of_getElem? (i := 2) rfl) (v := .ref (g_ad G 10 1)) rfl dX4_shift_67 ?_
          refine lv_bipush (v := nI 6) hx hb dX4_shift_70 (by decide) ?_
          refine lv_iload hx hb dX4_shift_72 (lv_at hl 1 rfl) ?_
          refine lv_imul hx hb dX4_shift_74 ?_
          refine top_i (y := nI (6 * i)) (pk_mul 6 i) ?_
          refine lv_iload hx hb dX4_shift_75 (lv_at hl 0 rfl) ?_
          refine lv_iadd hx hb dX4_shift_77 ?_
          refine top_i (y := nI (6 * i + 1)) (nI_add (6 * i) 1) ?_
          refine afl hx hb hw hT 10 1 (by decide) (f := mFS S2 1) rfl (6 * i + 1) (show 6 * i + 1 < 3072 by omega) (by decide) dX4_shift_78 ?_
          refine afs (S' := (mFU S2 (va_up (mFS S2) 4 (va_up (va_up (mFS S2 4) 0 (mFS S2 1 (6 * i + 0))) 1 (mFS S2 1 (6 * i + 1)))))) hx hb hw hT hS 10 4 (by decide) (f := va_up (mFS S2 4) 0 (mFS S2 1 (6 * i + 0))) rfl 1 (by decide) (by decide) (mup2_mF G S2 4 _ (va_up (va_up (mFS S2 4) 0 (mFS S2 1 (6 * i + 0))) 1 (mFS S2 1 (6 * i + 1)))) dX4_shift_79 (fun H locs hw hS => ?_)
          refine lv_iinc (v := nI 2) (lv' := [(8, .int (nI 2)), (7, .int (nI i)), (6, .int cq), (0, .ref (g_ad G 9 0)), (2, .int (nI tn)), (3, .float dx), (4, .float dy), (5, .float dz), (1, .int (nI fn))]) hx hb dX4_shift_80 hl (k := 0) rfl (by decide) (by decide) rfl (fun ls hl => ?_)
          refine lv_goto (tgt := 53) hx hb dX4_shift_83 (by decide) ?_
          refine lv_iload hx hb dX4_shift_53 (lv_at hl 0 rfl) ?_
          refine lv_bipush (v := nI 6) hx hb dX4_shift_55 (by decide) ?_
          refine lv_icmp_ge (tgt := 86) hx hb dX4_shift_57 (by decide) (fun q => absurd q (by decide)) (fun _ => ?_)
          refine lv_aload_n hx hb dX4_shift_60 rfl (lv_at hl 3 rfl) ?_
          refine gf hx hb hown hts hw hT 9 0 (by decide) (ci := 4) rfl rfl (fun _ h => List.mem_cons_of_mem _ (List.mem_append_right _ h)) 16 (by decide) (List.mem_of_getElem? (i := 1) rfl) (v := .ref (g_ad G 10 4)) rfl dX4_shift_61 ?_
          refine lv_iload hx hb dX4_shift_64 (lv_at hl 0 rfl) ?_
          refine lv_aload_n hx hb dX4_shift_66 rfl (lv_at hl 3 rfl) ?_
          refine gf hx hb hown hts hw hT 9 0 (by decide) (ci := 4) rfl rfl (fun _ h => List.mem_cons_of_mem _ (List.mem_append_right _ h)) 6 (by decide) (List.mem_of_getElem? (i := 2) rfl) (v := .ref (g_ad G 10 1)) rfl dX4_shift_67 ?_
          refine lv_bipush (v := nI 6) hx hb dX4_shift_70 (by decide) ?_
          refine lv_iload hx hb dX4_shift_72 (lv_at hl 1 rfl) ?_
          refine lv_imul hx hb dX4_shift_74 ?_
          refine top_i (y := nI (6 * i)) (pk_mul 6 i) ?_
          refine lv_iload hx hb dX4_shift_75 (lv_at hl 0 rfl) ?_
          refine lv_iadd hx hb dX4_shift_77 ?_
          refine top_i (y := nI (6 * i + 2)) (nI_add (6 * i) 2) ?_
          refine afl hx hb hw hT 10 1 (by decide) (f := mFS S2 1) rfl (6 * i + 2) (show 6 * i + 2 < 3072 by omega) (by decide) dX4_shift_78 ?_
          refine afs (S' := (mFU S2 (va_up (mFS S2) 4 (va_up (va_up (va_up (mFS S2 4) 0 (mFS S2 1 (6 * i + 0))) 1 (mFS S2 1 (6 * i + 1))) 2 (mFS S2 1 (6 * i + 2)))))) hx hb hw hT hS 10 4 (by decide) (f := va_up (va_up (mFS S2 4) 0 (mFS S2 1 (6 * i + 0))) 1 (mFS S2 1 (6 * i + 1))) rfl 2 (by decide) (by decide) (mup2_mF G S2 4 _ (va_up (va_up (va_up (mFS S2 4) 0 (mFS S2 1 (6 * i + 0))) 1 (mFS S2 1 (6 * i + 1))) 2 (mFS S2 1 (6 * i + 2)))) dX4_shift_79 (fun H locs hw hS => ?_)
          refine lv_iinc (v := nI 3) (lv' := [(8, .int (nI 3)), (7, .int (nI i)), (6, .int cq), (0, .ref (g_ad G 9 0)), (2, .int (nI tn)), (3, .float dx), (4, .float dy), (5, .float dz), (1, .int (nI fn))]) hx hb dX4_shift_80 hl (k := 0) rfl (by decide) (by decide) rfl (fun ls hl => ?_)
          refine lv_goto (tgt := 53) hx hb dX4_shift_83 (by decide) ?_
          refine lv_iload hx hb dX4_shift_53 (lv_at hl 0 rfl) ?_
          refine lv_bipush (v := nI 6) hx hb dX4_shift_55 (by decide) ?_
          refine lv_icmp_ge (tgt := 86) hx hb dX4_shift_57 (by decide) (fun q => absurd q (by decide)) (fun _ => ?_)
          refine lv_aload_n hx hb dX4_shift_60 rfl (lv_at hl 3 rfl) ?_
          refine gf hx hb hown hts hw hT 9 0 (by decide) (ci := 4) rfl rfl (fun _ h => List.mem_cons_of_mem _ (List.mem_append_right _ h)) 16 (by decide) (List.mem_of_getElem? (i := 1) rfl) (v := .ref (g_ad G 10 4)) rfl dX4_shift_61 ?_
          refine lv_iload hx hb dX4_shift_64 (lv_at hl 0 rfl) ?_
          refine lv_aload_n hx hb dX4_shift_66 rfl (lv_at hl 3 rfl) ?_
          refine gf hx hb hown hts hw hT 9 0 (by decide) (ci := 4) rfl rfl (fun _ h => List.mem_cons_of_mem _ (List.mem_append_right _ h)) 6 (by decide) (List.mem_of_getElem? (i := 2) rfl) (v := .ref (g_ad G 10 1)) rfl dX4_shift_67 ?_
          refine lv_bipush (v := nI 6) hx hb dX4_shift_70 (by decide) ?_
          refine lv_iload hx hb dX4_shift_72 (lv_at hl 1 rfl) ?_
          refine lv_imul hx hb dX4_shift_74 ?_
          refine top_i (y := nI (6 * i)) (pk_mul 6 i) ?_
          refine lv_iload hx hb dX4_shift_75 (lv_at hl 0 rfl) ?_
          refine lv_iadd hx hb dX4_shift_77 ?_
          refine top_i (y := nI (6 * i + 3)) (nI_add (6 * i) 3) ?_
          refine afl hx hb hw hT 10 1 (by decide) (f := mFS S2 1) rfl (6 * i + 3) (show 6 * i + 3 < 3072 by omega) (by decide) dX4_shift_78 ?_
          refine afs (S' := (mFU S2 (va_up (mFS S2) 4 (va_up (va_up (va_up (va_up (mFS S2 4) 0 (mFS S2 1 (6 * i + 0))) 1 (mFS S2 1 (6 * i + 1))) 2 (mFS S2 1 (6 * i + 2))) 3 (mFS S2 1 (6 * i + 3)))))) hx hb hw hT hS 10 4 (by decide) (f := va_up (va_up (va_up (mFS S2 4) 0 (mFS S2 1 (6 * i + 0))) 1 (mFS S2 1 (6 * i + 1))) 2 (mFS S2 1 (6 * i + 2))) rfl 3 (by decide) (by decide) (mup2_mF G S2 4 _ (va_up (va_up (va_up (va_up (mFS S2 4) 0 (mFS S2 1 (6 * i + 0))) 1 (mFS S2 1 (6 * i + 1))) 2 (mFS S2 1 (6 * i + 2))) 3 (mFS S2 1 (6 * i + 3)))) dX4_shift_79 (fun H locs hw hS => ?_)
          refine lv_iinc (v := nI 4) (lv' := [(8, .int (nI 4)), (7, .int (nI i)), (6, .int cq), (0, .ref (g_ad G 9 0)), (2, .int (nI tn)), (3, .float dx), (4, .float dy), (5, .float dz), (1, .int (nI fn))]) hx hb dX4_shift_80 hl (k := 0) rfl (by decide) (by decide) rfl (fun ls hl => ?_)
          refine lv_goto (tgt := 53) hx hb dX4_shift_83 (by decide) ?_
          refine lv_iload hx hb dX4_shift_53 (lv_at hl 0 rfl) ?_
          refine lv_bipush (v := nI 6) hx hb dX4_shift_55 (by decide) ?_
          refine lv_icmp_ge (tgt := 86) hx hb dX4_shift_57 (by decide) (fun q => absurd q (by decide)) (fun _ => ?_)
          refine lv_aload_n hx hb dX4_shift_60 rfl (lv_at hl 3 rfl) ?_
          refine gf hx hb hown hts hw hT 9 0 (by decide) (ci := 4) rfl rfl (fun _ h => List.mem_cons_of_mem _ (List.mem_append_right _ h)) 16 (by decide) (List.mem_of_getElem? (i := 1) rfl) (v := .ref (g_ad G 10 4)) rfl dX4_shift_61 ?_
          refine lv_iload hx hb dX4_shift_64 (lv_at hl 0 rfl) ?_
          refine lv_aload_n hx hb dX4_shift_66 rfl (lv_at hl 3 rfl) ?_
          refine gf hx hb hown hts hw hT 9 0 (by decide) (ci := 4) rfl rfl (fun _ h => List.mem_cons_of_mem _ (List.mem_append_right _ h)) 6 (by decide) (List.mem_of_getElem? (i := 2) rfl) (v := .ref (g_ad G 10 1)) rfl dX4_shift_67 ?_
          refine lv_bipush (v := nI 6) hx hb dX4_shift_70 (by decide) ?_
          refine lv_iload hx hb dX4_shift_72 (lv_at hl 1 rfl) ?_
          refine lv_imul hx hb dX4_shift_74 ?_
          refine top_i (y := nI (6 * i)) (pk_mul 6 i) ?_
          refine lv_iload hx hb dX4_shift_75 (lv_at hl 0 rfl) ?_
          refine lv_iadd hx hb dX4_shift_77 ?_
          refine top_i (y := nI (6 * i + 4)) (nI_add (6 * i) 4) ?_
          refine afl hx hb hw hT 10 1 (by decide) (f := mFS S2 1) rfl (6 * i + 4) (show 6 * i + 4 < 3072 by omega) (by decide) dX4_shift_78 ?_
          refine afs (S' := (mFU S2 (va_up (mFS S2) 4 (va_up (va_up (va_up (va_up (va_up (mFS S2 4) 0 (mFS S2 1 (6 * i + 0))) 1 (mFS S2 1 (6 * i + 1))) 2 (mFS S2 1 (6 * i + 2))) 3 (mFS S2 1 (6 * i + 3))) 4 (mFS S2 1 (6 * i + 4)))))) hx hb hw hT hS 10 4 (by decide) (f := va_up (va_up (va_up (va_up (mFS S2 4) 0 (mFS S2 1 (6 * i + 0))) 1 (mFS S2 1 (6 * i + 1))) 2 (mFS S2 1 (6 * i + 2))) 3 (mFS S2 1 (6 * i + 3))) rfl 4 (by decide) (by decide) (mup2_mF G S2 4 _ (va_up (va_up (va_up (va_up (va_up (mFS S2 4) 0 (mFS S2 1 (6 * i + 0))) 1 (mFS S2 1 (6 * i + 1))) 2 (mFS S2 1 (6 * i + 2))) 3 (mFS S2 1 (6 * i + 3))) 4 (mFS S2 1 (6 * i + 4)))) dX4_shift_79 (fun H locs hw hS => ?_)
          refine lv_iinc (v := nI 5) (lv' := [(8, .int (nI 5)), (7, .int (nI i)), (6, .int cq), (0, .ref (g_ad G 9 0)), (2, .int (nI tn)), (3, .float dx), (4, .float dy), (5, .float dz), (1, .int (nI fn))]) hx hb dX4_shift_80 hl (k := 0) rfl (by decide) (by decide) rfl (fun ls hl => ?_)
          refine lv_goto (tgt := 53) hx hb dX4_shift_83 (by decide) ?_
          refine lv_iload hx hb dX4_shift_53 (lv_at hl 0 rfl) ?_
          refine lv_bipush (v := nI 6) hx hb dX4_shift_55 (by decide) ?_
          refine lv_icmp_ge (tgt := 86) hx hb dX4_shift_57 (by decide) (fun q => absurd q (by decide)) (fun _ => ?_)
          refine lv_aload_n hx hb dX4_shift_60 rfl (lv_at hl 3 rfl) ?_
          refine gf hx hb hown hts hw hT 9 0 (by decide) (ci := 4) rfl rfl (fun _ h => List.mem_cons_of_mem _ (List.mem_append_right _ h)) 16 (by decide) (List.mem_of_getElem? (i := 1) rfl) (v := .ref (g_ad G 10 4)) rfl dX4_shift_61 ?_
          refine lv_iload hx hb dX4_shift_64 (lv_at hl 0 rfl) ?_
          refine lv_aload_n hx hb dX4_shift_66 rfl (lv_at hl 3 rfl) ?_
          refine gf hx hb hown hts hw hT 9 0 (by decide) (ci := 4) rfl rfl (fun _ h => List.mem_cons_of_mem _ (List.mem_append_right _ h)) 6 (by decide) (List.mem_of_getElem? (i := 2) rfl) (v := .ref (g_ad G 10 1)) rfl dX4_shift_67 ?_
          refine lv_bipush (v := nI 6) hx hb dX4_shift_70 (by decide) ?_
          refine lv_iload hx hb dX4_shift_72 (lv_at hl 1 rfl) ?_
          refine lv_imul hx hb dX4_shift_74 ?_
          refine top_i (y := nI (6 * i)) (pk_mul 6 i) ?_
          refine lv_iload hx hb dX4_shift_75 (lv_at hl 0 rfl) ?_
          refine lv_iadd hx hb dX4_shift_77 ?_
          refine top_i (y := nI (6 * i + 5)) (nI_add (6 * i) 5) ?_
          refine afl hx hb hw hT 10 1 (by decide) (f := mFS S2 1) rfl (6 * i + 5) (show 6 * i + 5 < 3072 by omega) (by decide) dX4_shift_78 ?_
          refine afs (S' := (mFU S2 (va_up (mFS S2) 4 (va_up (va_up (va_up (va_up (va_up (va_up (mFS S2 4) 0 (mFS S2 1 (6 * i + 0))) 1 (mFS S2 1 (6 * i + 1))) 2 (mFS S2 1 (6 * i + 2))) 3 (mFS S2 1 (6 * i + 3))) 4 (mFS S2 1 (6 * i + 4))) 5 (mFS S2 1 (6 * i + 5)))))) hx hb hw hT hS 10 4 (by decide) (f := va_up (va_up (va_up (va_up (va_up (mFS S2 4) 0 (mFS S2 1 (6 * i + 0))) 1 (mFS S2 1 (6 * i + 1))) 2 (mFS S2 1 (6 * i + 2))) 3 (mFS S2 1 (6 * i + 3))) 4 (mFS S2 1 (6 * i + 4))) rfl 5 (by decide) (by decide) (mup2_mF G S2 4 _ (va_up (va_up (va_up (va_up (va_up (va_up (mFS S2 4) 0 (mFS S2 1 (6 * i + 0))) 1 (mFS S2 1 (6 * i + 1))) 2 (mFS S2 1 (6 * i + 2))) 3 (mFS S2 1 (6 * i + 3))) 4 (mFS S2 1 (6 * i + 4))) 5 (mFS S2 1 (6 * i + 5)))) dX4_shift_79 (fun H locs hw hS => ?_)
          refine lv_iinc (v := nI 6) (lv' := [(8, .int (nI 6)), (7, .int (nI i)), (6, .int cq), (0, .ref (g_ad G 9 0)), (2, .int (nI tn)), (3, .float dx), (4, .float dy), (5, .float dz), (1, .int (nI fn))]) hx hb dX4_shift_80 hl (k := 0) rfl (by decide) (by decide) rfl (fun ls hl => ?_)
          refine lv_goto (tgt := 53) hx hb dX4_shift_83 (by decide) ?_
          refine lv_iload hx hb dX4_shift_53 (lv_at hl 0 rfl) ?_
          refine lv_bipush (v := nI 6) hx hb dX4_shift_55 (by decide) ?_
          refine lv_icmp_ge (tgt := 86) hx hb dX4_shift_57 (by decide) (fun _ => ?_) (fun q => absurd (by decide) q)
          have hw : wdM G (bcS S2 i) H s := hw
          obtain ⟨X9, hX9⟩ : ∃ z, z = bcS S2 i := ⟨_, rfl⟩
          rw [← hX9] at hw
          refine lv_aload_n hx hb dX4_shift_86 rfl (lv_at hl 3 rfl) ?_
          refine gf hx hb hown hts hw hT 9 0 (by decide) (ci := 4) rfl rfl (fun _ h => List.mem_cons_of_mem _ (List.mem_append_right _ h)) 2 (by decide) (List.mem_of_getElem? (i := 3) rfl) (v := .ref (g_ad G 12 0)) rfl dX4_shift_87 ?_
          refine lv_iload hx hb dX4_shift_90 (lv_at hl 1 rfl) ?_
          refine azl hx hb hw hT 12 0 (by decide) (f := (fun q => bI (mZS X9 0 q))) rfl i (show i < 512 by omega) (by decide) dX4_shift_92 ?_
          refine lv_if_eq (tgt := 126) hx hb dX4_shift_93 (by decide) (fun h12 => ?_) (fun h12 => ?_)
          · skip
            have h12 := bI_0.mp h12
            refine lv_iconst (v := nI 0) hx hb dX4_shift_126 (by decide) ?_
            refine lv_istore (lv' := [(8, .int (nI 0)), (7, .int (nI i)), (6, .int cq), (0, .ref (g_ad G 9 0)), (2, .int (nI tn)), (3, .float dx), (4, .float dy), (5, .float dz), (1, .int (nI fn))]) hx hb dX4_shift_127 hl (by decide) rfl (fun ls hl => ?_)
            refine lv_iload hx hb dX4_shift_129 (lv_at hl 0 rfl) ?_
            refine lv_if_eq (tgt := 141) hx hb dX4_shift_131 (by decide) (fun _ => ?_) (fun q => absurd (by decide) q)
            refine lv_iload hx hb dX4_shift_141 (lv_at hl 2 rfl) ?_
            refine lv_istore (lv' := [(6, .int cq), (8, .int (nI 0)), (7, .int (nI i)), (0, .ref (g_ad G 9 0)), (2, .int (nI tn)), (3, .float dx), (4, .float dy), (5, .float dz), (1, .int (nI fn))]) hx hb dX4_shift_143 hl (by decide) rfl (fun ls hl => ?_)
            refine lv_iinc (v := nI (i + 1)) (lv' := [(7, .int (nI (i + 1))), (6, .int cq), (8, .int (nI 0)), (0, .ref (g_ad G 9 0)), (2, .int (nI tn)), (3, .float dx), (4, .float dy), (5, .float dz), (1, .int (nI fn))]) hx hb dX4_shift_145 hl (k := 2) rfl (nI_add i 1) (by decide) rfl (fun ls hl => ?_)
            refine lv_goto (tgt := 44) hx hb dX4_shift_148 (by decide) ?_
            have e8 : X9 = s1M S2 i dx dy dz := by unfold s1M; rw [← hX9, if_neg (by rw [h12]; decide)]
            exact ih (i + 1) X9 cq H locs ls (by omega) ((sh_n e8 (by unfold s1B; rw [← hX9]; simp only [h12, Bool.true_and, Bool.false_and])).symm.trans hq) (by rw [e8]; exact s1_tg hG) hw hS (lv_sub hl [0, 1, 3, 4, 5, 6, 7, 8] rfl)
          · skip
            have h12 := bI_n0.mp h12
            refine lv_aload_n hx hb dX4_shift_96 rfl (lv_at hl 3 rfl) ?_
            refine lv_fload_n hx hb dX4_shift_97 rfl (lv_at hl 5 rfl) ?_
            refine lv_fload hx hb dX4_shift_98 (lv_at hl 6 rfl) ?_
            refine lv_fload hx hb dX4_shift_100 (lv_at hl 7 rfl) ?_
            refine cVi ⟨hx, hb, hml, hown, hts⟩ (m_goesOn l G X9 dx dy dz (mv_ok (by rw [hX9]; exact bc_gb hG (by omega)) hmv)) (cwV 3 hts gX4_shift_X4_goesOn rfl rfl rfl (by decide +kernel) ⟨(Nat.le_of_ble_eq_true rfl), (Nat.le_of_ble_eq_true rfl)⟩) hw hT hS (rcv hw hT 9 0 (by decide) rfl rfl) (As := [.float dx, .float dy, .float dz]) (rest := []) rfl hl.1 rfl (Nat.le_of_ble_eq_true rfl) dX4_shift_102 ⟨(Nat.le_of_ble_eq_true rfl), (Nat.le_of_ble_eq_true rfl)⟩ (fun H locs hw hS => ?_)
            refine lv_if_eq (tgt := 126) hx hb dX4_shift_105 (by decide) (fun h14 => ?_) (fun h14 => ?_)
            · skip
              have h14 := bI_0.mp h14
              refine lv_iconst (v := nI 0) hx hb dX4_shift_126 (by decide) ?_
              refine lv_istore (lv' := [(8, .int (nI 0)), (7, .int (nI i)), (6, .int cq), (0, .ref (g_ad G 9 0)), (2, .int (nI tn)), (3, .float dx), (4, .float dy), (5, .float dz), (1, .int (nI fn))]) hx hb dX4_shift_127 hl (by decide) rfl (fun ls hl => ?_)
              refine lv_iload hx hb dX4_shift_129 (lv_at hl 0 rfl) ?_
              refine lv_if_eq (tgt := 141) hx hb dX4_shift_131 (by decide) (fun _ => ?_) (fun q => absurd (by decide) q)
              refine lv_iload hx hb dX4_shift_141 (lv_at hl 2 rfl) ?_
              refine lv_istore (lv' := [(6, .int cq), (8, .int (nI 0)), (7, .int (nI i)), (0, .ref (g_ad G 9 0)), (2, .int (nI tn)), (3, .float dx), (4, .float dy), (5, .float dz), (1, .int (nI fn))]) hx hb dX4_shift_143 hl (by decide) rfl (fun ls hl => ?_)
              refine lv_iinc (v := nI (i + 1)) (lv' := [(7, .int (nI (i + 1))), (6, .int cq), (8, .int (nI 0)), (0, .ref (g_ad G 9 0)), (2, .int (nI tn)), (3, .float dx), (4, .float dy), (5, .float dz), (1, .int (nI fn))]) hx hb dX4_shift_145 hl (k := 2) rfl (nI_add i 1) (by decide) rfl (fun ls hl => ?_)
              refine lv_goto (tgt := 44) hx hb dX4_shift_148 (by decide) ?_
              have e8 : (gnS X9 dx dy dz) = s1M S2 i dx dy dz := by unfold s1M; rw [← hX9, if_pos h12, if_neg (by rw [h14]; decide)]
              exact ih (i + 1) ((gnS X9 dx dy dz)) cq H locs ls (by omega) ((sh_n e8 (by unfold s1B; rw [← hX9]; simp only [h12, h14, Bool.true_and, Bool.false_and])).symm.trans hq) (by rw [e8]; exact s1_tg hG) hw hS (lv_sub hl [0, 1, 3, 4, 5, 6, 7, 8] rfl)
            · skip
              have h14 := bI_n0.mp h14
              refine lv_aload_n hx hb dX4_shift_108 rfl (lv_at hl 3 rfl) ?_
              refine lv_iload hx hb dX4_shift_109 (lv_at hl 1 rfl) ?_
              refine lv_fload_n hx hb dX4_shift_111 rfl (lv_at hl 5 rfl) ?_
              refine lv_fload hx hb dX4_shift_112 (lv_at hl 6 rfl) ?_
              refine lv_fload hx hb dX4_shift_114 (lv_at hl 7 rfl) ?_
              refine cVi ⟨hx, hb, hml, hown, hts⟩ (m_moves l G (gnS X9 dx dy dz) i (by omega) dx dy dz (se_n (gn_gb h14) (mvB_at hmv).1 (mvB_at hmv).2.1 (mvB_at hmv).2.2)) (cwV 4 hts gX4_shift_X4_moves rfl rfl rfl (by decide +kernel) ⟨(Nat.le_of_ble_eq_true rfl), (Nat.le_of_ble_eq_true rfl)⟩) hw hT hS (rcv hw hT 9 0 (by decide) rfl rfl) (As := [.int (nI i), .float dx, .float dy, .float dz]) (rest := []) rfl hl.1 rfl (Nat.le_of_ble_eq_true rfl) dX4_shift_116 ⟨(Nat.le_of_ble_eq_true rfl), (Nat.le_of_ble_eq_true rfl)⟩ (fun H locs hw hS => ?_)
              refine lv_if_eq (tgt := 126) hx hb dX4_shift_119 (by decide) (fun h16 => ?_) (fun h16 => ?_)
              · skip
                have h16 := bI_0.mp h16
                refine lv_iconst (v := nI 0) hx hb dX4_shift_126 (by decide) ?_
                refine lv_istore (lv' := [(8, .int (nI 0)), (7, .int (nI i)), (6, .int cq), (0, .ref (g_ad G 9 0)), (2, .int (nI tn)), (3, .float dx), (4, .float dy), (5, .float dz), (1, .int (nI fn))]) hx hb dX4_shift_127 hl (by decide) rfl (fun ls hl => ?_)
                refine lv_iload hx hb dX4_shift_129 (lv_at hl 0 rfl) ?_
                refine lv_if_eq (tgt := 141) hx hb dX4_shift_131 (by decide) (fun _ => ?_) (fun q => absurd (by decide) q)
                refine lv_iload hx hb dX4_shift_141 (lv_at hl 2 rfl) ?_
                refine lv_istore (lv' := [(6, .int cq), (8, .int (nI 0)), (7, .int (nI i)), (0, .ref (g_ad G 9 0)), (2, .int (nI tn)), (3, .float dx), (4, .float dy), (5, .float dz), (1, .int (nI fn))]) hx hb dX4_shift_143 hl (by decide) rfl (fun ls hl => ?_)
                refine lv_iinc (v := nI (i + 1)) (lv' := [(7, .int (nI (i + 1))), (6, .int cq), (8, .int (nI 0)), (0, .ref (g_ad G 9 0)), (2, .int (nI tn)), (3, .float dx), (4, .float dy), (5, .float dz), (1, .int (nI fn))]) hx hb dX4_shift_145 hl (k := 2) rfl (nI_add i 1) (by decide) rfl (fun ls hl => ?_)
                refine lv_goto (tgt := 44) hx hb dX4_shift_148 (by decide) ?_
                have e8 : (moM (gnS X9 dx dy dz) i dx dy dz) = s1M S2 i dx dy dz := by unfold s1M; rw [← hX9, if_pos h12, if_pos h14]
                exact ih (i + 1) ((moM (gnS X9 dx dy dz) i dx dy dz)) cq H locs ls (by omega) ((sh_n e8 (by unfold s1B; rw [← hX9]; simp only [h12, h14, h16, Bool.true_and, Bool.false_and])).symm.trans hq) (by rw [e8]; exact s1_tg hG) hw hS (lv_sub hl [0, 1, 3, 4, 5, 6, 7, 8] rfl)
              · skip
                have h16 := bI_n0.mp h16
                refine lv_iconst (v := nI 1) hx hb dX4_shift_122 (by decide) ?_
                refine lv_goto (tgt := 127) hx hb dX4_shift_123 (by decide) ?_
                refine lv_istore (lv' := [(8, .int (nI 1)), (7, .int (nI i)), (6, .int cq), (0, .ref (g_ad G 9 0)), (2, .int (nI tn)), (3, .float dx), (4, .float dy), (5, .float dz), (1, .int (nI fn))]) hx hb dX4_shift_127 hl (by decide) rfl (fun ls hl => ?_)
                refine lv_iload hx hb dX4_shift_129 (lv_at hl 0 rfl) ?_
                refine lv_if_eq (tgt := 141) hx hb dX4_shift_131 (by decide) (fun q => absurd q (by decide)) (fun _ => ?_)
                refine lv_iload hx hb dX4_shift_134 (lv_at hl 2 rfl) ?_
                refine lv_iconst (v := nI 1) hx hb dX4_shift_136 (by decide) ?_
                refine lv_iadd hx hb dX4_shift_137 ?_
                refine lv_goto (tgt := 143) hx hb dX4_shift_138 (by decide) ?_
                refine lv_istore (lv' := [(6, .int (cq + (nI 1))), (8, .int (nI 1)), (7, .int (nI i)), (0, .ref (g_ad G 9 0)), (2, .int (nI tn)), (3, .float dx), (4, .float dy), (5, .float dz), (1, .int (nI fn))]) hx hb dX4_shift_143 hl (by decide) rfl (fun ls hl => ?_)
                refine lv_iinc (v := nI (i + 1)) (lv' := [(7, .int (nI (i + 1))), (6, .int (cq + (nI 1))), (8, .int (nI 1)), (0, .ref (g_ad G 9 0)), (2, .int (nI tn)), (3, .float dx), (4, .float dy), (5, .float dz), (1, .int (nI fn))]) hx hb dX4_shift_145 hl (k := 2) rfl (nI_add i 1) (by decide) rfl (fun ls hl => ?_)
                refine lv_goto (tgt := 44) hx hb dX4_shift_148 (by decide) ?_
                have e8 : (moM (gnS X9 dx dy dz) i dx dy dz) = s1M S2 i dx dy dz := by unfold s1M; rw [← hX9, if_pos h12, if_pos h14]
                exact ih (i + 1) ((moM (gnS X9 dx dy dz) i dx dy dz)) (cq + (nI 1)) H locs ls (by omega) ((sh_y e8 (by unfold s1B; rw [← hX9]; simp only [h12, h14, h16, Bool.true_and, Bool.false_and])).symm.trans hq) (by rw [e8]; exact s1_tg hG) hw hS (lv_sub hl [0, 1, 3, 4, 5, 6, 7, 8] rfl)
      exact LOOP (tn + 1 - fn) fn ((okS S)) (nI 0) _ _ ls (by omega) rfl hG0 hw hS (lv_sub hl [0, 1, 2, 4, 5, 6, 7, 3] rfl)
    · skip
      have h2 := bI_0.mp h2
      refine lv_iconst (v := nI 0) hx hb dX4_shift_36 (by decide) ?_
      exact ri hx hb hlk hr (by unfold shMS; rw [if_neg (by rw [h2]; decide)]; exact hw) hS (by unfold shMI; rw [if_neg (by rw [h2]; decide)]) (vp_nar_int _) (Nat.le_of_ble_eq_true rfl) (Nat.le_of_ble_eq_true rfl) dX4_shift_37
  refine lv_iload_n hx hb dX4_shift_1 rfl (lv_at hl 1 rfl) ?_
  refine lv_if_lt (tgt := 21) hx hb dX4_shift_2 (by decide) (fun h19 => ?_) (fun h19 => ?_)
  · skip
    refine lv_iconst (v := nI 0) hx hb dX4_shift_21 (by decide) ?_
    refine top_i (y := bI false) (by decide) ?_
    exact K1 false _ _ (by first | (simp only [sfB, h19, Bool.true_and, Bool.false_and, Bool.and_true, Bool.and_false]; done) | simp [sfB, h19]) hw hS
  · skip
    refine lv_iload_n hx hb dX4_shift_5 rfl (lv_at hl 2 rfl) ?_
    refine lv_sipush (v := nI 512) hx hb dX4_shift_6 (by decide) ?_
    refine lv_icmp_ge (tgt := 21) hx hb dX4_shift_9 (by decide) (fun h20 => ?_) (fun h20 => ?_)
    · skip
      have h20 : ¬ tt < (nI 512) := Int32.not_lt.mpr h20
      refine lv_iconst (v := nI 0) hx hb dX4_shift_21 (by decide) ?_
      refine top_i (y := bI false) (by decide) ?_
      exact K1 false _ _ (by first | (simp only [sfB, h19, h20, Bool.true_and, Bool.false_and, Bool.and_true, Bool.and_false]; done) | simp [sfB, h19, h20]) hw hS
    · skip
      have h20 : tt < (nI 512) := Int32.not_le.mp h20
      refine lv_iload_n hx hb dX4_shift_12 rfl (lv_at hl 1 rfl) ?_
      refine lv_iload_n hx hb dX4_shift_13 rfl (lv_at hl 2 rfl) ?_
      refine lv_icmp_gt (tgt := 21) hx hb dX4_shift_14 (by decide) (fun h21 => ?_) (fun h21 => ?_)
      · skip
        refine lv_iconst (v := nI 0) hx hb dX4_shift_21 (by decide) ?_
        refine top_i (y := bI false) (by decide) ?_
        exact K1 false _ _ (by first | (simp only [sfB, h19, h20, h21, Bool.true_and, Bool.false_and, Bool.and_true, Bool.and_false]; done) | simp [sfB, h19, h20, h21]) hw hS
      · skip
        refine lv_iconst (v := nI 1) hx hb dX4_shift_17 (by decide) ?_
        refine lv_goto (tgt := 22) hx hb dX4_shift_18 (by decide) ?_
        refine top_i (y := bI true) (by decide) ?_
        exact K1 true _ _ (by first | (simp only [sfB, h19, h20, h21, Bool.true_and, Bool.false_and, Bool.and_true, Bool.and_false]; done) | simp [sfB, h19, h20, h21]) hw hS
def grM (dx dy dz : UInt32) : Nat → St → Bool → St × Bool
  | 0, S, ok => (S, ok)
  | n + 1, S, ok => if ok = true then grM dx dy dz n (gnS S dx dy dz) (gnF (mFS S 4) dx dy dz) else (S, ok)
def arB (S : St) (n : Int32) (dx dy dz : UInt32) : Bool := !(decide (n < nI 1)) && (!(decide (nI 512 < n)) && (pbF (mFS S 0) && slF dx dy dz))
def arT (S : St) (n : Int32) (dx dy dz : UInt32) : St × Bool := grM dx dy dz (kN n - 1) (tkS S) (arB S n dx dy dz)
def arK (S : St) (n : Int32) : Bool := !(decide (nI 512 < nI (ctB (mZS S 0) 512) + n))
def ptR (dx dy dz : UInt32) (g m : Int32) : Nat → St → Int32 → St × Int32
  | 0, S, r => (S, r)
  | n + 1, S, _ => ptR dx dy dz g m n (gnS (puS S (lsR (mZS S 0) 512 0) g m) dx dy dz) (nI (lsR (mZS S 0) 512 0))
def arMS (S : St) (n : Int32) (dx dy dz : UInt32) (g m : Int32) : St := if ((arT S n dx dy dz).2 && arK S n) = true then (ptR dx dy dz g m (kN n) (tkS (okS (arT S n dx dy dz).1)) (-1)).1 else gsS (arT S n dx dy dz).1 (arT S n dx dy dz).2 (arK S n)
def arMI (S : St) (n : Int32) (dx dy dz : UInt32) (g m : Int32) : Int32 := if ((arT S n dx dy dz).2 && arK S n) = true then (ptR dx dy dz g m (kN n) (tkS (okS (arT S n dx dy dz).1)) (-1)).2 else nI 0
theorem gm_f {dx dy dz : UInt32} {S : St} : ∀ n, grM dx dy dz n S false = (S, false)
  | 0 => rfl
  | n + 1 => rfl
theorem gm_row {dx dy dz : UInt32} : ∀ (n : Nat) (S : St), Gb (mFS S 4) → (grM dx dy dz n S true).2 = true → ∀ t, t ≤ n → Gb (rwF dx dy dz t (mFS S 4))
  | 0, S, hG, _, t, ht => by rw [show t = 0 by omega]; exact hG
  | n + 1, S, hG, h, t, ht => by
    rw [grM, if_pos rfl] at h
    by_cases q : gnF (mFS S 4) dx dy dz = true
    · rw [q] at h
      match t, ht with
      | 0, _ => exact hG
      | t + 1, ht =>
        have := gm_row n (gnS S dx dy dz) (gn_gb q) h t (by omega)
        rw [show mFS (gnS S dx dy dz) 4 = mvF (mFS S 4) dx dy dz from rfl, rw_in] at this
        exact this
    · rw [show gnF (mFS S 4) dx dy dz = false by simpa using q, gm_f] at h
      cases h
theorem gm_0 {dx dy dz : UInt32} {j : Nat} (hj : j ≠ 4) : ∀ (n : Nat) (S : St) (ok : Bool), mFS (grM dx dy dz n S ok).1 j = mFS S j
  | 0, S, ok => rfl
  | n + 1, S, ok => by
    rw [grM]
    split
    · rw [gm_0 hj n]; exact va_up_ne _ _ hj
    · rfl
theorem gm_z {dx dy dz : UInt32} : ∀ (n : Nat) (S : St) (ok : Bool), mZS (grM dx dy dz n S ok).1 = mZS S
  | 0, S, ok => rfl
  | n + 1, S, ok => by
    rw [grM]
    split
    · rw [gm_z n]; rfl
    · rfl
theorem ar_row {S : St} {dx dy dz : UInt32} {N : Nat} (hp : Gb (mFS S 0)) (h : (grM dx dy dz (N - 1) (tkS S) true).2 = true) : ∀ t, t < N → Gb (rwF dx dy dz t (mFS (tkS (okS (grM dx dy dz (N - 1) (tkS S) true).1)) 4)) := by
  intro t ht k hk
  have h1 := gm_row (N - 1) (tkS S) (tk_gb hp) h t (by omega) k hk
  rw [rw_cong (g := mFS (tkS S) 4) _ t k hk]
  · exact h1
  · intro q hq
    show tkF (mFS (grM dx dy dz (N - 1) (tkS S) true).1 0) _ q = tkF (mFS S 0) (mFS S 4) q
    rw [tk_at q hq, tk_at q hq, gm_0 (by decide)]
    rfl
theorem arK_n {S : St} {N : Nat} (h5 : N ≤ 512) : arK S (nI N) = decide (ctB (mZS S 0) 512 + N ≤ 512) := by
  have := ctB_le (mZS S 0) 512
  unfold arK
  rw [nI_add]
  by_cases q : ctB (mZS S 0) 512 + N ≤ 512
  · rw [decide_eq_true q, decide_eq_false (nI_nlt q (by decide))]; rfl
  · rw [decide_eq_false q, decide_eq_true (nI_lt (by omega) (by omega))]; rfl
theorem arB_nat {S : St} {n : Int32} {dx dy dz : UInt32} (h : arB S n dx dy dz = true) : (∃ N, 1 ≤ N ∧ N ≤ 512 ∧ n = nI N) ∧ slF dx dy dz = true := by
  unfold arB at h
  simp only [Bool.and_eq_true, Bool.not_eq_true', decide_eq_false_iff_not] at h
  exact ⟨n_nat h.1 h.2.1, h.2.2.2⟩
theorem ct_up {t : Nat → Bool} {b : Nat} (hb : t b = false) : ∀ n, ctB (va_up t b true) n = ctB t n + (if b < n then 1 else 0)
  | 0 => rfl
  | n + 1 => by
    rw [ctB, ctB, ct_up hb n]
    by_cases q : n = b
    · subst q
      rw [va_up_self, hb]
      simp
    · rw [va_up_ne _ _ q]
      by_cases q2 : b < n
      · rw [if_pos q2, if_pos (show b < n + 1 by omega)]
        split <;> omega
      · rw [if_neg q2, if_neg (show ¬ b < n + 1 by omega)]; rfl
theorem pu_z {S : St} {b : Nat} {g m : Int32} {dx dy dz : UInt32} : mZS (gnS (puS S b g m) dx dy dz) 0 = va_up (mZS S 0) b true := by
  unfold gnS
  rw [mZ_mF]
  unfold puS
  rw [se_z0]
  unfold puT
  rw [mZ_mI, mZ_mI]
  unfold puZ
  rw [mZ_mZ, va_up_self]
theorem pu_ct {S : St} {b : Nat} {g m : Int32} {dx dy dz : UInt32} (hls : lsR (mZS S 0) 512 0 = b) (hb5 : b < 512) : ctB (mZS (gnS (puS S b g m) dx dy dz) 0) 512 = ctB (mZS S 0) 512 + 1 := by
  have h := (ls_spec (mZS S 0) 512 0).2.2.2
  rw [hls] at h
  rw [pu_z, ct_up (h (by omega)), if_pos hb5]
theorem pu_b4 {S : St} {b : Nat} {g m : Int32} : mFS (puS S b g m) 4 = mFS S 4 := by
  unfold puS
  rw [se_4]
  exact pu_4
theorem pu_b {S : St} {b : Nat} {g m : Int32} {dx dy dz : UInt32} : mFS (gnS (puS S b g m) dx dy dz) 4 = mvF (mFS S 4) dx dy dz := by
  unfold gnS
  rw [mF_mF, va_up_self, pu_b4]
theorem pt_s {dx dy dz : UInt32} {g m r : Int32} {n b : Nat} {S : St} (hls : lsR (mZS S 0) 512 0 = b) : ptR dx dy dz g m (n + 1) S r = ptR dx dy dz g m n (gnS (puS S b g m) dx dy dz) (nI b) := by rw [ptR, hls]
set_option maxRecDepth 100000 in
set_option maxHeartbeats 1000000 in
theorem m_addRow (l : Launch) (G : Gm) (S : St) (hp : Gb (mFS S 0)) (n : Int32) (dx dy dz : UInt32) (g m9 : Int32) : Pi l yX4_addRow wsX4_addRow ({ frames := 3, cells := 0, slots := 0, locals := 73 } : Room) [.ref (g_ad G 9 0), .int n, .float dx, .float dy, .float dz, .int g, .int m9] G S (arMI S n dx dy dz g m9) (arMS S n dx dy dz g m9) := by
  refine ent (cc := cX4_addRow) (maxL := 11) (ret := (some .int)) (by decide) rfl (Nat.le_of_ble_eq_true rfl) ?_
  intro p e s m below meth c ls C hw hT hS hl
  obtain ⟨hx, hb, hr, hml, hown, hts, hlk⟩ := C
  have hl : lv_has ls 11 [(0, .ref (g_ad G 9 0)), (1, .int n), (2, .float dx), (3, .float dy), (4, .float dz), (5, .int g), (6, .int m9)] := hl
  have K1 : ∀ (b9 : Bool) (H : Heap) (locs : List Loc), b9 = (arB S n dx dy dz) → wdM G S H s → va_S (g_A G) s.heap H locs → W p l e ({ frames := 3, cells := 0, slots := 0, locals := 73 } : Room) s m ([.ref (g_ad G 9 0), .int n, .float dx, .float dy, .float dz, .int g, .int m9] : List Value).toArray below meth c H locs 0 0 (MQ below (Qi G (arMI S n dx dy dz g m9) (arMS S n dx dy dz g m9)) ([.ref (g_ad G 9 0), .int n, .float dx, .float dy, .float dz, .int g, .int m9] : List Value).toArray s ({ frames := 3, cells := 0, slots := 0, locals := 73 } : Room).cells ({ frames := 3, cells := 0, slots := 0, locals := 73 } : Room).slots (g_A G)) (F0 m 34 ls [.int (bI b9)]) := by
    intro b9 H locs hb9 hw hS
    subst hb9
    by_cases hA : arB S n dx dy dz = true
    · skip
      obtain ⟨⟨N, hN1, hN5, rfl⟩, hsl⟩ := arB_nat hA
      have kN9 : kN (nI N) = N := kN_nI (by omega)
      have hmv := sl_mv hsl
      refine top_i (y := bI true) (by rw [hA]) ?_
      refine lv_istore (lv' := [(7, .int (bI true)), (0, .ref (g_ad G 9 0)), (1, .int (nI N)), (2, .float dx), (3, .float dy), (4, .float dz), (5, .int g), (6, .int m9)]) hx hb dX4_addRow_34 hl (by decide) rfl (fun ls hl => ?_)
      refine lv_aload_n hx hb dX4_addRow_36 rfl (lv_at hl 1 rfl) ?_
      refine cVv ⟨hx, hb, hml, hown, hts⟩ (m_takePad l G S) (cwV 0 hts gX4_addRow_X4_takePad rfl rfl rfl (by decide +kernel) ⟨(Nat.le_of_ble_eq_true rfl), (Nat.le_of_ble_eq_true rfl)⟩) hw hT hS (rcv hw hT 9 0 (by decide) rfl rfl) (As := []) (rest := []) rfl hl.1 rfl (Nat.le_of_ble_eq_true rfl) dX4_addRow_37 ⟨(Nat.le_of_ble_eq_true rfl), (Nat.le_of_ble_eq_true rfl)⟩ (fun H locs hw hS => ?_)
      refine lv_iconst (v := nI 1) hx hb dX4_addRow_40 (by decide) ?_
      refine lv_istore (lv' := [(8, .int (nI 1)), (7, .int (bI true)), (0, .ref (g_ad G 9 0)), (1, .int (nI N)), (2, .float dx), (3, .float dy), (4, .float dz), (5, .int g), (6, .int m9)]) hx hb dX4_addRow_41 hl (by decide) rfl (fun ls hl => ?_)
      have LOOP : ∀ (n i : Nat) (S2 : St) (ok : Bool) (H : Heap) (locs : List Loc) (ls : Array Slot), i + n = N → (grM dx dy dz n S2 ok = grM dx dy dz (N - 1) (tkS S) true) → (ok = true → Gb (mFS S2 4)) → wdM G S2 H s → va_S (g_A G) s.heap H locs → lv_has ls 11 [(8, .int (nI i)), (7, .int (bI ok)), (0, .ref (g_ad G 9 0)), (1, .int (nI N)), (2, .float dx), (3, .float dy), (4, .float dz), (5, .int g), (6, .int m9)] → W p l e ({ frames := 3, cells := 0, slots := 0, locals := 73 } : Room) s m ([.ref (g_ad G 9 0), .int (nI N), .float dx, .float dy, .float dz, .int g, .int m9] : List Value).toArray below meth c H locs 0 0 (MQ below (Qi G (arMI S (nI N) dx dy dz g m9) (arMS S (nI N) dx dy dz g m9)) ([.ref (g_ad G 9 0), .int (nI N), .float dx, .float dy, .float dz, .int g, .int m9] : List Value).toArray s ({ frames := 3, cells := 0, slots := 0, locals := 73 } : Room).cells ({ frames := 3, cells := 0, slots := 0, locals := 73 } : Room).slots (g_A G)) (F0 m 43 ls []) := by
        intro n
        induction n with
        | zero =>
          intro i S2 ok H locs ls hn hq hG hw hS hl
          obtain rfl : N = i := by omega
          refine lv_iload hx hb dX4_addRow_43 (lv_at hl 0 rfl) ?_
          refine lv_iload_n hx hb dX4_addRow_45 rfl (lv_at hl 3 rfl) ?_
          refine lv_icmp_ge (tgt := 70) hx hb dX4_addRow_46 (by decide) (fun _ => ?_) (fun q => absurd (Int32.le_refl _) q)
          have e9 : arT S (nI N) dx dy dz = (S2, ok) := by
            unfold arT
            rw [kN9, hA, ← hq]
            rfl
          have ez : mZS S2 = mZS S := by
            have := congrArg (fun z => mZS z.1) e9
            rw [← this]
            unfold arT
            exact gm_z _ _ _
          have hct := ctB_le (mZS S2 0) 512
          refine lv_aload_n hx hb dX4_addRow_70 rfl (lv_at hl 2 rfl) ?_
          refine lv_iload hx hb dX4_addRow_71 (lv_at hl 1 rfl) ?_
          have K3 : ∀ (b9 : Bool) (H : Heap) (locs : List Loc), b9 = (arK S (nI N)) → wdM G S2 H s → va_S (g_A G) s.heap H locs → W p l e ({ frames := 3, cells := 0, slots := 0, locals := 73 } : Room) s m ([.ref (g_ad G 9 0), .int (nI N), .float dx, .float dy, .float dz, .int g, .int m9] : List Value).toArray below meth c H locs 0 0 (MQ below (Qi G (arMI S (nI N) dx dy dz g m9) (arMS S (nI N) dx dy dz g m9)) ([.ref (g_ad G 9 0), .int (nI N), .float dx, .float dy, .float dz, .int g, .int m9] : List Value).toArray s ({ frames := 3, cells := 0, slots := 0, locals := 73 } : Room).cells ({ frames := 3, cells := 0, slots := 0, locals := 73 } : Room).slots (g_A G)) (F0 m 90 ls [.int (bI b9), .int (bI ok), .ref (g_ad G 9 0)]) := by
            intro b9 H locs hb9 hw hS
            subst hb9
            refine cVi ⟨hx, hb, hml, hown, hts⟩ (m_goes l G S2 ok (arK S (nI N))) (cwV 2 hts gX4_addRow_X4_goes rfl rfl rfl (by decide +kernel) ⟨(Nat.le_of_ble_eq_true rfl), (Nat.le_of_ble_eq_true rfl)⟩) hw hT hS (rcv hw hT 9 0 (by decide) rfl rfl) (As := [.int (bI ok), .int (bI (arK S (nI N)))]) (rest := []) rfl hl.1 rfl (Nat.le_of_ble_eq_true rfl) dX4_addRow_90 ⟨(Nat.le_of_ble_eq_true rfl), (Nat.le_of_ble_eq_true rfl)⟩ (fun H locs hw hS => ?_)
            refine lv_if_ne (tgt := 98) hx hb dX4_addRow_93 (by decide) (fun h4 => ?_) (fun h4 => ?_)
            · skip
              have h4 := bI_n0.mp h4
              replace hw : wdM G (okS S2) H s := by rw [gs_ok h4] at hw; exact hw
              have hk9 : ctB (mZS S2 0) 512 + N ≤ 512 := of_decide_eq_true (by rw [ez, ← arK_n hN5]; exact and_r h4)
              have hr9 : ∀ t, t < N → Gb (rwF dx dy dz t (mFS (tkS (okS S2)) 4)) := by
                have e8 : grM dx dy dz (N - 1) (tkS S) true = (S2, ok) := by rw [← e9]; unfold arT; rw [kN9, hA]
                have := ar_row (N := N) (dx := dx) (dy := dy) (dz := dz) hp (by rw [e8]; exact and_l h4)
                rw [e8] at this
                exact this
              refine lv_aload_n hx hb dX4_addRow_98 rfl (lv_at hl 2 rfl) ?_
              refine cVv ⟨hx, hb, hml, hown, hts⟩ (m_takePad l G (okS S2)) (cwV 0 hts gX4_addRow_X4_takePad rfl rfl rfl (by decide +kernel) ⟨(Nat.le_of_ble_eq_true rfl), (Nat.le_of_ble_eq_true rfl)⟩) hw hT hS (rcv hw hT 9 0 (by decide) rfl rfl) (As := []) (rest := []) rfl hl.1 rfl (Nat.le_of_ble_eq_true rfl) dX4_addRow_99 ⟨(Nat.le_of_ble_eq_true rfl), (Nat.le_of_ble_eq_true rfl)⟩ (fun H locs hw hS => ?_)
              refine lv_iconst (v := (-1)) hx hb dX4_addRow_102 (by decide) ?_
              refine lv_istore (lv' := [(8, .int ((-1))), (7, .int (bI ok)), (0, .ref (g_ad G 9 0)), (1, .int (nI N)), (2, .float dx), (3, .float dy), (4, .float dz), (5, .int g), (6, .int m9)]) hx hb dX4_addRow_103 hl (by decide) rfl (fun ls hl => ?_)
              refine lv_iconst (v := nI 0) hx hb dX4_addRow_105 (by decide) ?_
              refine lv_istore (lv' := [(9, .int (nI 0)), (8, .int ((-1))), (7, .int (bI ok)), (0, .ref (g_ad G 9 0)), (1, .int (nI N)), (2, .float dx), (3, .float dy), (4, .float dz), (5, .int g), (6, .int m9)]) hx hb dX4_addRow_106 hl (by decide) rfl (fun ls hl => ?_)
              have LOOP3 : ∀ (n3 j : Nat) (S3 : St) (r : Int32) (H : Heap) (locs : List Loc) (ls : Array Slot), j + n3 = N → (ptR dx dy dz g m9 n3 S3 r = ptR dx dy dz g m9 N (tkS (okS S2)) (-1)) → (ctB (mZS S3 0) 512 + n3 ≤ 512) → (∀ t, t < n3 → Gb (rwF dx dy dz t (mFS S3 4))) → wdM G S3 H s → va_S (g_A G) s.heap H locs → lv_has ls 11 [(9, .int (nI j)), (8, .int r), (0, .ref (g_ad G 9 0)), (1, .int (nI N)), (2, .float dx), (3, .float dy), (4, .float dz), (5, .int g), (6, .int m9)] → W p l e ({ frames := 3, cells := 0, slots := 0, locals := 73 } : Room) s m ([.ref (g_ad G 9 0), .int (nI N), .float dx, .float dy, .float dz, .int g, .int m9] : List Value).toArray below meth c H locs 0 0 (MQ below (Qi G (arMI S (nI N) dx dy dz g m9) (arMS S (nI N) dx dy dz g m9)) ([.ref (g_ad G 9 0), .int (nI N), .float dx, .float dy, .float dz, .int g, .int m9] : List Value).toArray s ({ frames := 3, cells := 0, slots := 0, locals := 73 } : Room).cells ({ frames := 3, cells := 0, slots := 0, locals := 73 } : Room).slots (g_A G)) (F0 m 108 ls []) := by
                intro n3
                induction n3 with
                | zero =>
                  intro j S3 r H locs ls hn3 hq3 hc3 hr3 hw hS hl
                  obtain rfl : N = j := by omega
                  refine lv_iload hx hb dX4_addRow_108 (lv_at hl 0 rfl) ?_
                  refine lv_iload_n hx hb dX4_addRow_110 rfl (lv_at hl 3 rfl) ?_
                  refine lv_icmp_ge (tgt := 140) hx hb dX4_addRow_111 (by decide) (fun _ => ?_) (fun q => absurd (Int32.le_refl _) q)
                  refine lv_iload hx hb dX4_addRow_140 (lv_at hl 1 rfl) ?_
                  exact ri hx hb hlk hr (by unfold arMS; rw [e9, if_pos h4, kN9, ← hq3]; exact hw) hS (by unfold arMI; rw [e9, if_pos h4, kN9, ← hq3]; rfl) (vp_nar_int _) (Nat.le_of_ble_eq_true rfl) (Nat.le_of_ble_eq_true rfl) dX4_addRow_142
                | succ n3 ih3 =>
                  intro j S3 r H locs ls hn3 hq3 hc3 hr3 hw hS hl
                  have hj9 : j < N := by omega
                  refine lv_iload hx hb dX4_addRow_108 (lv_at hl 0 rfl) ?_
                  refine lv_iload_n hx hb dX4_addRow_110 rfl (lv_at hl 3 rfl) ?_
                  refine lv_icmp_ge (tgt := 140) hx hb dX4_addRow_111 (by decide) (fun q => absurd q (nI_ge hj9 (by omega))) (fun _ => ?_)
                  obtain ⟨b, hls⟩ : ∃ b, lsR (mZS S3 0) 512 0 = b := ⟨_, rfl⟩
                  have hb5 : b < 512 := by rw [← hls]; exact ls_lt (by omega)
                  have hG3 : Gb (mFS S3 4) := hr3 0 (by omega)
                  refine lv_aload_n hx hb dX4_addRow_114 rfl (lv_at hl 2 rfl) ?_
                  refine lv_iload hx hb dX4_addRow_115 (lv_at hl 7 rfl) ?_
                  refine lv_iload hx hb dX4_addRow_117 (lv_at hl 8 rfl) ?_
                  refine cVi ⟨hx, hb, hml, hown, hts⟩ (m_put l G S3 b hls (by omega) hG3 g m9) (cwV 2 hts gX4_addRow_X4_put rfl rfl rfl (by decide +kernel) ⟨(Nat.le_of_ble_eq_true rfl), (Nat.le_of_ble_eq_true rfl)⟩) hw hT hS (rcv hw hT 9 0 (by decide) rfl rfl) (As := [.int g, .int m9]) (rest := []) rfl hl.1 rfl (Nat.le_of_ble_eq_true rfl) dX4_addRow_119 ⟨(Nat.le_of_ble_eq_true rfl), (Nat.le_of_ble_eq_true rfl)⟩ (fun H locs hw hS => ?_)
                  refine lv_istore (lv' := [(8, .int (nI b)), (9, .int (nI j)), (0, .ref (g_ad G 9 0)), (1, .int (nI N)), (2, .float dx), (3, .float dy), (4, .float dz), (5, .int g), (6, .int m9)]) hx hb dX4_addRow_122 hl (by decide) rfl (fun ls hl => ?_)
                  refine lv_aload_n hx hb dX4_addRow_124 rfl (lv_at hl 2 rfl) ?_
                  refine lv_fload_n hx hb dX4_addRow_125 rfl (lv_at hl 4 rfl) ?_
                  refine lv_fload_n hx hb dX4_addRow_126 rfl (lv_at hl 5 rfl) ?_
                  refine lv_fload hx hb dX4_addRow_127 (lv_at hl 6 rfl) ?_
                  refine cVi ⟨hx, hb, hml, hown, hts⟩ (m_goesOn l G (puS S3 b g m9) dx dy dz (mv_ok (by rw [pu_b4]; exact hG3) hmv)) (cwV 3 hts gX4_addRow_X4_goesOn rfl rfl rfl (by decide +kernel) ⟨(Nat.le_of_ble_eq_true rfl), (Nat.le_of_ble_eq_true rfl)⟩) hw hT hS (rcv hw hT 9 0 (by decide) rfl rfl) (As := [.float dx, .float dy, .float dz]) (rest := []) rfl hl.1 rfl (Nat.le_of_ble_eq_true rfl) dX4_addRow_129 ⟨(Nat.le_of_ble_eq_true rfl), (Nat.le_of_ble_eq_true rfl)⟩ (fun H locs hw hS => ?_)
                  refine lv_istore (lv' := [(10, .int (bI (gnF (mFS (puS S3 b g m9) 4) dx dy dz))), (8, .int (nI b)), (9, .int (nI j)), (0, .ref (g_ad G 9 0)), (1, .int (nI N)), (2, .float dx), (3, .float dy), (4, .float dz), (5, .int g), (6, .int m9)]) hx hb dX4_addRow_132 hl (by decide) rfl (fun ls hl => ?_)
                  refine lv_iinc (v := nI (j + 1)) (lv' := [(9, .int (nI (j + 1))), (10, .int (bI (gnF (mFS (puS S3 b g m9) 4) dx dy dz))), (8, .int (nI b)), (0, .ref (g_ad G 9 0)), (1, .int (nI N)), (2, .float dx), (3, .float dy), (4, .float dz), (5, .int g), (6, .int m9)]) hx hb dX4_addRow_134 hl (k := 2) rfl (nI_add j 1) (by decide) rfl (fun ls hl => ?_)
                  refine lv_goto (tgt := 108) hx hb dX4_addRow_137 (by decide) ?_
                  exact ih3 (j + 1) (gnS (puS S3 b g m9) dx dy dz) (nI b) H locs ls (by omega) (by rw [← hq3, pt_s hls]) (by rw [pu_ct hls hb5]; omega) (fun t ht => by rw [pu_b, rw_in]; exact hr3 (t + 1) (by omega)) hw hS (lv_sub hl [0, 2, 3, 4, 5, 6, 7, 8, 9] rfl)
              exact LOOP3 N 0 ((tkS (okS S2))) (-1) _ _ ls (by omega) rfl hk9 hr9 hw hS (lv_sub hl [0, 1, 3, 4, 5, 6, 7, 8, 9] rfl)
            · skip
              have h4 := bI_0.mp h4
              refine lv_iconst (v := nI 0) hx hb dX4_addRow_96 (by decide) ?_
              exact ri hx hb hlk hr (by unfold arMS; rw [e9, if_neg (by rw [h4]; decide)]; exact hw) hS (by unfold arMI; rw [e9, if_neg (by rw [h4]; decide)]) (vp_nar_int _) (Nat.le_of_ble_eq_true rfl) (Nat.le_of_ble_eq_true rfl) dX4_addRow_97
          refine lv_aload_n hx hb dX4_addRow_73 rfl (lv_at hl 2 rfl) ?_
          refine cVi ⟨hx, hb, hml, hown, hts⟩ (m_bodies l G S2) (cwV 0 hts gX4_addRow_X4_bodies rfl rfl rfl (by decide +kernel) ⟨(Nat.le_of_ble_eq_true rfl), (Nat.le_of_ble_eq_true rfl)⟩) hw hT hS (rcv hw hT 9 0 (by decide) rfl rfl) (As := []) (rest := [.int (bI ok), .ref (g_ad G 9 0)]) rfl hl.1 rfl (Nat.le_of_ble_eq_true rfl) dX4_addRow_74 ⟨(Nat.le_of_ble_eq_true rfl), (Nat.le_of_ble_eq_true rfl)⟩ (fun H locs hw hS => ?_)
          refine lv_iload_n hx hb dX4_addRow_77 rfl (lv_at hl 3 rfl) ?_
          refine lv_iadd hx hb dX4_addRow_78 ?_
          refine top_i (y := nI (ctB (mZS S2 0) 512 + N)) (nI_add (ctB (mZS S2 0) 512) N) ?_
          refine lv_sipush (v := nI 512) hx hb dX4_addRow_79 (by decide) ?_
          refine lv_icmp_gt (tgt := 89) hx hb dX4_addRow_82 (by decide) (fun h7 => ?_) (fun h7 => ?_)
          · skip
            have h7 : 512 < (ctB (mZS S2 0) 512 + N) := (nI_ltI (by omega) (by omega)).mp h7
            refine lv_iconst (v := nI 0) hx hb dX4_addRow_89 (by decide) ?_
            refine top_i (y := bI false) (by decide) ?_
            exact K3 false _ _ (by rw [arK_n hN5, ← ez]; exact (decide_eq_false (by omega)).symm) hw hS
          · skip
            have h7 : ¬ 512 < (ctB (mZS S2 0) 512 + N) := fun z => h7 ((nI_ltI (by omega) (by omega)).mpr z)
            refine lv_iconst (v := nI 1) hx hb dX4_addRow_85 (by decide) ?_
            refine lv_goto (tgt := 90) hx hb dX4_addRow_86 (by decide) ?_
            refine top_i (y := bI true) (by decide) ?_
            exact K3 true _ _ (by rw [arK_n hN5, ← ez]; exact (decide_eq_true (by omega)).symm) hw hS
        | succ n ih =>
          intro i S2 ok H locs ls hn hq hG hw hS hl
          have hi : i < N := by omega
          refine lv_iload hx hb dX4_addRow_43 (lv_at hl 0 rfl) ?_
          refine lv_iload_n hx hb dX4_addRow_45 rfl (lv_at hl 3 rfl) ?_
          refine lv_icmp_ge (tgt := 70) hx hb dX4_addRow_46 (by decide) (fun q => absurd q (nI_ge hi (by omega))) (fun _ => ?_)
          refine lv_iload hx hb dX4_addRow_49 (lv_at hl 1 rfl) ?_
          refine lv_if_eq (tgt := 70) hx hb dX4_addRow_51 (by decide) (fun h9 => ?_) (fun h9 => ?_)
          · skip
            have h9 := bI_0.mp h9
            have e9 : arT S (nI N) dx dy dz = (S2, ok) := by
              unfold arT
              rw [kN9, hA, ← hq]
              rw [grM, if_neg (by rw [h9]; decide)]
            have ez : mZS S2 = mZS S := by
              have := congrArg (fun z => mZS z.1) e9
              rw [← this]
              unfold arT
              exact gm_z _ _ _
            have hct := ctB_le (mZS S2 0) 512
            refine lv_aload_n hx hb dX4_addRow_70 rfl (lv_at hl 2 rfl) ?_
            refine lv_iload hx hb dX4_addRow_71 (lv_at hl 1 rfl) ?_
            have K10 : ∀ (b9 : Bool) (H : Heap) (locs : List Loc), b9 = (arK S (nI N)) → wdM G S2 H s → va_S (g_A G) s.heap H locs → W p l e ({ frames := 3, cells := 0, slots := 0, locals := 73 } : Room) s m ([.ref (g_ad G 9 0), .int (nI N), .float dx, .float dy, .float dz, .int g, .int m9] : List Value).toArray below meth c H locs 0 0 (MQ below (Qi G (arMI S (nI N) dx dy dz g m9) (arMS S (nI N) dx dy dz g m9)) ([.ref (g_ad G 9 0), .int (nI N), .float dx, .float dy, .float dz, .int g, .int m9] : List Value).toArray s ({ frames := 3, cells := 0, slots := 0, locals := 73 } : Room).cells ({ frames := 3, cells := 0, slots := 0, locals := 73 } : Room).slots (g_A G)) (F0 m 90 ls [.int (bI b9), .int (bI ok), .ref (g_ad G 9 0)]) := by
              intro b9 H locs hb9 hw hS
              subst hb9
              refine cVi ⟨hx, hb, hml, hown, hts⟩ (m_goes l G S2 ok (arK S (nI N))) (cwV 2 hts gX4_addRow_X4_goes rfl rfl rfl (by decide +kernel) ⟨(Nat.le_of_ble_eq_true rfl), (Nat.le_of_ble_eq_true rfl)⟩) hw hT hS (rcv hw hT 9 0 (by decide) rfl rfl) (As := [.int (bI ok), .int (bI (arK S (nI N)))]) (rest := []) rfl hl.1 rfl (Nat.le_of_ble_eq_true rfl) dX4_addRow_90 ⟨(Nat.le_of_ble_eq_true rfl), (Nat.le_of_ble_eq_true rfl)⟩ (fun H locs hw hS => ?_)
              refine lv_if_ne (tgt := 98) hx hb dX4_addRow_93 (by decide) (fun h11 => ?_) (fun h11 => ?_)
              · skip
                have h11 := bI_n0.mp h11
                replace hw : wdM G (okS S2) H s := by rw [gs_ok h11] at hw; exact hw
                have hk9 : ctB (mZS S2 0) 512 + N ≤ 512 := of_decide_eq_true (by rw [ez, ← arK_n hN5]; exact and_r h11)
                have hr9 : ∀ t, t < N → Gb (rwF dx dy dz t (mFS (tkS (okS S2)) 4)) := by
                  have e8 : grM dx dy dz (N - 1) (tkS S) true = (S2, ok) := by rw [← e9]; unfold arT; rw [kN9, hA]
                  have := ar_row (N := N) (dx := dx) (dy := dy) (dz := dz) hp (by rw [e8]; exact and_l h11)
                  rw [e8] at this
                  exact this
                refine lv_aload_n hx hb dX4_addRow_98 rfl (lv_at hl 2 rfl) ?_
                refine cVv ⟨hx, hb, hml, hown, hts⟩ (m_takePad l G (okS S2)) (cwV 0 hts gX4_addRow_X4_takePad rfl rfl rfl (by decide +kernel) ⟨(Nat.le_of_ble_eq_true rfl), (Nat.le_of_ble_eq_true rfl)⟩) hw hT hS (rcv hw hT 9 0 (by decide) rfl rfl) (As := []) (rest := []) rfl hl.1 rfl (Nat.le_of_ble_eq_true rfl) dX4_addRow_99 ⟨(Nat.le_of_ble_eq_true rfl), (Nat.le_of_ble_eq_true rfl)⟩ (fun H locs hw hS => ?_)
                refine lv_iconst (v := (-1)) hx hb dX4_addRow_102 (by decide) ?_
                refine lv_istore (lv' := [(8, .int ((-1))), (7, .int (bI ok)), (0, .ref (g_ad G 9 0)), (1, .int (nI N)), (2, .float dx), (3, .float dy), (4, .float dz), (5, .int g), (6, .int m9)]) hx hb dX4_addRow_103 hl (by decide) rfl (fun ls hl => ?_)
                refine lv_iconst (v := nI 0) hx hb dX4_addRow_105 (by decide) ?_
                refine lv_istore (lv' := [(9, .int (nI 0)), (8, .int ((-1))), (7, .int (bI ok)), (0, .ref (g_ad G 9 0)), (1, .int (nI N)), (2, .float dx), (3, .float dy), (4, .float dz), (5, .int g), (6, .int m9)]) hx hb dX4_addRow_106 hl (by decide) rfl (fun ls hl => ?_)
                have LOOP3 : ∀ (n3 j : Nat) (S3 : St) (r : Int32) (H : Heap) (locs : List Loc) (ls : Array Slot), j + n3 = N → (ptR dx dy dz g m9 n3 S3 r = ptR dx dy dz g m9 N (tkS (okS S2)) (-1)) → (ctB (mZS S3 0) 512 + n3 ≤ 512) → (∀ t, t < n3 → Gb (rwF dx dy dz t (mFS S3 4))) → wdM G S3 H s → va_S (g_A G) s.heap H locs → lv_has ls 11 [(9, .int (nI j)), (8, .int r), (0, .ref (g_ad G 9 0)), (1, .int (nI N)), (2, .float dx), (3, .float dy), (4, .float dz), (5, .int g), (6, .int m9)] → W p l e ({ frames := 3, cells := 0, slots := 0, locals := 73 } : Room) s m ([.ref (g_ad G 9 0), .int (nI N), .float dx, .float dy, .float dz, .int g, .int m9] : List Value).toArray below meth c H locs 0 0 (MQ below (Qi G (arMI S (nI N) dx dy dz g m9) (arMS S (nI N) dx dy dz g m9)) ([.ref (g_ad G 9 0), .int (nI N), .float dx, .float dy, .float dz, .int g, .int m9] : List Value).toArray s ({ frames := 3, cells := 0, slots := 0, locals := 73 } : Room).cells ({ frames := 3, cells := 0, slots := 0, locals := 73 } : Room).slots (g_A G)) (F0 m 108 ls []) := by
                  intro n3
                  induction n3 with
                  | zero =>
                    intro j S3 r H locs ls hn3 hq3 hc3 hr3 hw hS hl
                    obtain rfl : N = j := by omega
                    refine lv_iload hx hb dX4_addRow_108 (lv_at hl 0 rfl) ?_
                    refine lv_iload_n hx hb dX4_addRow_110 rfl (lv_at hl 3 rfl) ?_
                    refine lv_icmp_ge (tgt := 140) hx hb dX4_addRow_111 (by decide) (fun _ => ?_) (fun q => absurd (Int32.le_refl _) q)
                    refine lv_iload hx hb dX4_addRow_140 (lv_at hl 1 rfl) ?_
                    exact ri hx hb hlk hr (by unfold arMS; rw [e9, if_pos h11, kN9, ← hq3]; exact hw) hS (by unfold arMI; rw [e9, if_pos h11, kN9, ← hq3]; rfl) (vp_nar_int _) (Nat.le_of_ble_eq_true rfl) (Nat.le_of_ble_eq_true rfl) dX4_addRow_142
                  | succ n3 ih3 =>
                    intro j S3 r H locs ls hn3 hq3 hc3 hr3 hw hS hl
                    have hj9 : j < N := by omega
                    refine lv_iload hx hb dX4_addRow_108 (lv_at hl 0 rfl) ?_
                    refine lv_iload_n hx hb dX4_addRow_110 rfl (lv_at hl 3 rfl) ?_
                    refine lv_icmp_ge (tgt := 140) hx hb dX4_addRow_111 (by decide) (fun q => absurd q (nI_ge hj9 (by omega))) (fun _ => ?_)
                    obtain ⟨b, hls⟩ : ∃ b, lsR (mZS S3 0) 512 0 = b := ⟨_, rfl⟩
                    have hb5 : b < 512 := by rw [← hls]; exact ls_lt (by omega)
                    have hG3 : Gb (mFS S3 4) := hr3 0 (by omega)
                    refine lv_aload_n hx hb dX4_addRow_114 rfl (lv_at hl 2 rfl) ?_
                    refine lv_iload hx hb dX4_addRow_115 (lv_at hl 7 rfl) ?_
                    refine lv_iload hx hb dX4_addRow_117 (lv_at hl 8 rfl) ?_
                    refine cVi ⟨hx, hb, hml, hown, hts⟩ (m_put l G S3 b hls (by omega) hG3 g m9) (cwV 2 hts gX4_addRow_X4_put rfl rfl rfl (by decide +kernel) ⟨(Nat.le_of_ble_eq_true rfl), (Nat.le_of_ble_eq_true rfl)⟩) hw hT hS (rcv hw hT 9 0 (by decide) rfl rfl) (As := [.int g, .int m9]) (rest := []) rfl hl.1 rfl (Nat.le_of_ble_eq_true rfl) dX4_addRow_119 ⟨(Nat.le_of_ble_eq_true rfl), (Nat.le_of_ble_eq_true rfl)⟩ (fun H locs hw hS => ?_)
                    refine lv_istore (lv' := [(8, .int (nI b)), (9, .int (nI j)), (0, .ref (g_ad G 9 0)), (1, .int (nI N)), (2, .float dx), (3, .float dy), (4, .float dz), (5, .int g), (6, .int m9)]) hx hb dX4_addRow_122 hl (by decide) rfl (fun ls hl => ?_)
                    refine lv_aload_n hx hb dX4_addRow_124 rfl (lv_at hl 2 rfl) ?_
                    refine lv_fload_n hx hb dX4_addRow_125 rfl (lv_at hl 4 rfl) ?_
                    refine lv_fload_n hx hb dX4_addRow_126 rfl (lv_at hl 5 rfl) ?_
                    refine lv_fload hx hb dX4_addRow_127 (lv_at hl 6 rfl) ?_
                    refine cVi ⟨hx, hb, hml, hown, hts⟩ (m_goesOn l G (puS S3 b g m9) dx dy dz (mv_ok (by rw [pu_b4]; exact hG3) hmv)) (cwV 3 hts gX4_addRow_X4_goesOn rfl rfl rfl (by decide +kernel) ⟨(Nat.le_of_ble_eq_true rfl), (Nat.le_of_ble_eq_true rfl)⟩) hw hT hS (rcv hw hT 9 0 (by decide) rfl rfl) (As := [.float dx, .float dy, .float dz]) (rest := []) rfl hl.1 rfl (Nat.le_of_ble_eq_true rfl) dX4_addRow_129 ⟨(Nat.le_of_ble_eq_true rfl), (Nat.le_of_ble_eq_true rfl)⟩ (fun H locs hw hS => ?_)
                    refine lv_istore (lv' := [(10, .int (bI (gnF (mFS (puS S3 b g m9) 4) dx dy dz))), (8, .int (nI b)), (9, .int (nI j)), (0, .ref (g_ad G 9 0)), (1, .int (nI N)), (2, .float dx), (3, .float dy), (4, .float dz), (5, .int g), (6, .int m9)]) hx hb dX4_addRow_132 hl (by decide) rfl (fun ls hl => ?_)
                    refine lv_iinc (v := nI (j + 1)) (lv' := [(9, .int (nI (j + 1))), (10, .int (bI (gnF (mFS (puS S3 b g m9) 4) dx dy dz))), (8, .int (nI b)), (0, .ref (g_ad G 9 0)), (1, .int (nI N)), (2, .float dx), (3, .float dy), (4, .float dz), (5, .int g), (6, .int m9)]) hx hb dX4_addRow_134 hl (k := 2) rfl (nI_add j 1) (by decide) rfl (fun ls hl => ?_)
                    refine lv_goto (tgt := 108) hx hb dX4_addRow_137 (by decide) ?_
                    exact ih3 (j + 1) (gnS (puS S3 b g m9) dx dy dz) (nI b) H locs ls (by omega) (by rw [← hq3, pt_s hls]) (by rw [pu_ct hls hb5]; omega) (fun t ht => by rw [pu_b, rw_in]; exact hr3 (t + 1) (by omega)) hw hS (lv_sub hl [0, 2, 3, 4, 5, 6, 7, 8, 9] rfl)
                exact LOOP3 N 0 ((tkS (okS S2))) (-1) _ _ ls (by omega) rfl hk9 hr9 hw hS (lv_sub hl [0, 1, 3, 4, 5, 6, 7, 8, 9] rfl)
              · skip
                have h11 := bI_0.mp h11
                refine lv_iconst (v := nI 0) hx hb dX4_addRow_96 (by decide) ?_
                exact ri hx hb hlk hr (by unfold arMS; rw [e9, if_neg (by rw [h11]; decide)]; exact hw) hS (by unfold arMI; rw [e9, if_neg (by rw [h11]; decide)]) (vp_nar_int _) (Nat.le_of_ble_eq_true rfl) (Nat.le_of_ble_eq_true rfl) dX4_addRow_97
            refine lv_aload_n hx hb dX4_addRow_73 rfl (lv_at hl 2 rfl) ?_
            refine cVi ⟨hx, hb, hml, hown, hts⟩ (m_bodies l G S2) (cwV 0 hts gX4_addRow_X4_bodies rfl rfl rfl (by decide +kernel) ⟨(Nat.le_of_ble_eq_true rfl), (Nat.le_of_ble_eq_true rfl)⟩) hw hT hS (rcv hw hT 9 0 (by decide) rfl rfl) (As := []) (rest := [.int (bI ok), .ref (g_ad G 9 0)]) rfl hl.1 rfl (Nat.le_of_ble_eq_true rfl) dX4_addRow_74 ⟨(Nat.le_of_ble_eq_true rfl), (Nat.le_of_ble_eq_true rfl)⟩ (fun H locs hw hS => ?_)
            refine lv_iload_n hx hb dX4_addRow_77 rfl (lv_at hl 3 rfl) ?_
            refine lv_iadd hx hb dX4_addRow_78 ?_
            refine top_i (y := nI (ctB (mZS S2 0) 512 + N)) (nI_add (ctB (mZS S2 0) 512) N) ?_
            refine lv_sipush (v := nI 512) hx hb dX4_addRow_79 (by decide) ?_
            refine lv_icmp_gt (tgt := 89) hx hb dX4_addRow_82 (by decide) (fun h14 => ?_) (fun h14 => ?_)
            · skip
              have h14 : 512 < (ctB (mZS S2 0) 512 + N) := (nI_ltI (by omega) (by omega)).mp h14
              refine lv_iconst (v := nI 0) hx hb dX4_addRow_89 (by decide) ?_
              refine top_i (y := bI false) (by decide) ?_
              exact K10 false _ _ (by rw [arK_n hN5, ← ez]; exact (decide_eq_false (by omega)).symm) hw hS
            · skip
              have h14 : ¬ 512 < (ctB (mZS S2 0) 512 + N) := fun z => h14 ((nI_ltI (by omega) (by omega)).mpr z)
              refine lv_iconst (v := nI 1) hx hb dX4_addRow_85 (by decide) ?_
              refine lv_goto (tgt := 90) hx hb dX4_addRow_86 (by decide) ?_
              refine top_i (y := bI true) (by decide) ?_
              exact K10 true _ _ (by rw [arK_n hN5, ← ez]; exact (decide_eq_true (by omega)).symm) hw hS
          · skip
            have h9 := bI_n0.mp h9
            refine lv_aload_n hx hb dX4_addRow_54 rfl (lv_at hl 2 rfl) ?_
            refine lv_fload_n hx hb dX4_addRow_55 rfl (lv_at hl 4 rfl) ?_
            refine lv_fload_n hx hb dX4_addRow_56 rfl (lv_at hl 5 rfl) ?_
            refine lv_fload hx hb dX4_addRow_57 (lv_at hl 6 rfl) ?_
            refine cVi ⟨hx, hb, hml, hown, hts⟩ (m_goesOn l G S2 dx dy dz (mv_ok (hG h9) hmv)) (cwV 3 hts gX4_addRow_X4_goesOn rfl rfl rfl (by decide +kernel) ⟨(Nat.le_of_ble_eq_true rfl), (Nat.le_of_ble_eq_true rfl)⟩) hw hT hS (rcv hw hT 9 0 (by decide) rfl rfl) (As := [.float dx, .float dy, .float dz]) (rest := []) rfl hl.1 rfl (Nat.le_of_ble_eq_true rfl) dX4_addRow_59 ⟨(Nat.le_of_ble_eq_true rfl), (Nat.le_of_ble_eq_true rfl)⟩ (fun H locs hw hS => ?_)
            refine lv_istore (lv' := [(7, .int (bI (gnF (mFS S2 4) dx dy dz))), (8, .int (nI i)), (0, .ref (g_ad G 9 0)), (1, .int (nI N)), (2, .float dx), (3, .float dy), (4, .float dz), (5, .int g), (6, .int m9)]) hx hb dX4_addRow_62 hl (by decide) rfl (fun ls hl => ?_)
            refine lv_iinc (v := nI (i + 1)) (lv' := [(8, .int (nI (i + 1))), (7, .int (bI (gnF (mFS S2 4) dx dy dz))), (0, .ref (g_ad G 9 0)), (1, .int (nI N)), (2, .float dx), (3, .float dy), (4, .float dz), (5, .int g), (6, .int m9)]) hx hb dX4_addRow_64 hl (k := 1) rfl (nI_add i 1) (by decide) rfl (fun ls hl => ?_)
            refine lv_goto (tgt := 43) hx hb dX4_addRow_67 (by decide) ?_
            exact ih (i + 1) ((gnS S2 dx dy dz)) (gnF (mFS S2 4) dx dy dz) H locs ls (by omega) (by rw [← hq, grM, if_pos h9]) (fun z => gn_gb z) hw hS (lv_sub hl [0, 1, 2, 3, 4, 5, 6, 7, 8] rfl)
      exact LOOP (N - 1) 1 ((tkS S)) true _ _ ls (by omega) rfl (fun _ => tk_gb hp) hw hS (lv_sub hl [0, 1, 2, 3, 4, 5, 6, 7, 8] rfl)
    · skip
      have hA : arB S n dx dy dz = false := by simpa using hA
      have e9 : arT S n dx dy dz = (tkS S, false) := by unfold arT; rw [hA, gm_f]
      refine top_i (y := bI false) (by rw [hA]) ?_
      refine lv_istore (lv' := [(7, .int (bI false)), (0, .ref (g_ad G 9 0)), (1, .int n), (2, .float dx), (3, .float dy), (4, .float dz), (5, .int g), (6, .int m9)]) hx hb dX4_addRow_34 hl (by decide) rfl (fun ls hl => ?_)
      refine lv_aload_n hx hb dX4_addRow_36 rfl (lv_at hl 1 rfl) ?_
      refine cVv ⟨hx, hb, hml, hown, hts⟩ (m_takePad l G S) (cwV 0 hts gX4_addRow_X4_takePad rfl rfl rfl (by decide +kernel) ⟨(Nat.le_of_ble_eq_true rfl), (Nat.le_of_ble_eq_true rfl)⟩) hw hT hS (rcv hw hT 9 0 (by decide) rfl rfl) (As := []) (rest := []) rfl hl.1 rfl (Nat.le_of_ble_eq_true rfl) dX4_addRow_37 ⟨(Nat.le_of_ble_eq_true rfl), (Nat.le_of_ble_eq_true rfl)⟩ (fun H locs hw hS => ?_)
      refine lv_iconst (v := nI 1) hx hb dX4_addRow_40 (by decide) ?_
      refine lv_istore (lv' := [(8, .int (nI 1)), (7, .int (bI false)), (0, .ref (g_ad G 9 0)), (1, .int n), (2, .float dx), (3, .float dy), (4, .float dz), (5, .int g), (6, .int m9)]) hx hb dX4_addRow_41 hl (by decide) rfl (fun ls hl => ?_)
      refine lv_iload hx hb dX4_addRow_43 (lv_at hl 0 rfl) ?_
      refine lv_iload_n hx hb dX4_addRow_45 rfl (lv_at hl 3 rfl) ?_
      refine lv_icmp_ge (tgt := 70) hx hb dX4_addRow_46 (by decide) (fun h15 => ?_) (fun h15 => ?_)
      · skip
        have h15 : ¬ (nI 1) < n := Int32.not_lt.mpr h15
        refine lv_aload_n hx hb dX4_addRow_70 rfl (lv_at hl 2 rfl) ?_
        refine lv_iload hx hb dX4_addRow_71 (lv_at hl 1 rfl) ?_
        have K16 : ∀ (b9 : Bool) (H : Heap) (locs : List Loc), b9 = (arK S n) → wdM G (tkS S) H s → va_S (g_A G) s.heap H locs → W p l e ({ frames := 3, cells := 0, slots := 0, locals := 73 } : Room) s m ([.ref (g_ad G 9 0), .int n, .float dx, .float dy, .float dz, .int g, .int m9] : List Value).toArray below meth c H locs 0 0 (MQ below (Qi G (arMI S n dx dy dz g m9) (arMS S n dx dy dz g m9)) ([.ref (g_ad G 9 0), .int n, .float dx, .float dy, .float dz, .int g, .int m9] : List Value).toArray s ({ frames := 3, cells := 0, slots := 0, locals := 73 } : Room).cells ({ frames := 3, cells := 0, slots := 0, locals := 73 } : Room).slots (g_A G)) (F0 m 90 ls [.int (bI b9), .int (bI false), .ref (g_ad G 9 0)]) := by
          intro b9 H locs hb9 hw hS
          subst hb9
          refine cVi ⟨hx, hb, hml, hown, hts⟩ (m_goes l G (tkS S) false (arK S n)) (cwV 2 hts gX4_addRow_X4_goes rfl rfl rfl (by decide +kernel) ⟨(Nat.le_of_ble_eq_true rfl), (Nat.le_of_ble_eq_true rfl)⟩) hw hT hS (rcv hw hT 9 0 (by decide) rfl rfl) (As := [.int (bI false), .int (bI (arK S n))]) (rest := []) rfl hl.1 rfl (Nat.le_of_ble_eq_true rfl) dX4_addRow_90 ⟨(Nat.le_of_ble_eq_true rfl), (Nat.le_of_ble_eq_true rfl)⟩ (fun H locs hw hS => ?_)
          refine lv_if_ne (tgt := 98) hx hb dX4_addRow_93 (by decide) (fun h17 => ?_) (fun h17 => ?_)
          · skip
            have h17 := bI_n0.mp h17
            exact absurd h17 (by simp)
          · skip
            have h17 := bI_0.mp h17
            refine lv_iconst (v := nI 0) hx hb dX4_addRow_96 (by decide) ?_
            exact ri hx hb hlk hr (by unfold arMS; rw [e9, if_neg (by intro z; cases z)]; exact hw) hS (by unfold arMI; rw [e9, if_neg (by intro z; cases z)]) (vp_nar_int _) (Nat.le_of_ble_eq_true rfl) (Nat.le_of_ble_eq_true rfl) dX4_addRow_97
        refine lv_aload_n hx hb dX4_addRow_73 rfl (lv_at hl 2 rfl) ?_
        refine cVi ⟨hx, hb, hml, hown, hts⟩ (m_bodies l G (tkS S)) (cwV 0 hts gX4_addRow_X4_bodies rfl rfl rfl (by decide +kernel) ⟨(Nat.le_of_ble_eq_true rfl), (Nat.le_of_ble_eq_true rfl)⟩) hw hT hS (rcv hw hT 9 0 (by decide) rfl rfl) (As := []) (rest := [.int (bI false), .ref (g_ad G 9 0)]) rfl hl.1 rfl (Nat.le_of_ble_eq_true rfl) dX4_addRow_74 ⟨(Nat.le_of_ble_eq_true rfl), (Nat.le_of_ble_eq_true rfl)⟩ (fun H locs hw hS => ?_)
        refine lv_iload_n hx hb dX4_addRow_77 rfl (lv_at hl 3 rfl) ?_
        refine lv_iadd hx hb dX4_addRow_78 ?_
        refine lv_sipush (v := nI 512) hx hb dX4_addRow_79 (by decide) ?_
        refine lv_icmp_gt (tgt := 89) hx hb dX4_addRow_82 (by decide) (fun h18 => ?_) (fun h18 => ?_)
        · skip
          refine lv_iconst (v := nI 0) hx hb dX4_addRow_89 (by decide) ?_
          refine top_i (y := bI false) (by decide) ?_
          exact K16 false _ _ (by unfold arK; rw [show mZS S 0 = mZS (tkS S) 0 from rfl]; simp [h18]) hw hS
        · skip
          refine lv_iconst (v := nI 1) hx hb dX4_addRow_85 (by decide) ?_
          refine lv_goto (tgt := 90) hx hb dX4_addRow_86 (by decide) ?_
          refine top_i (y := bI true) (by decide) ?_
          exact K16 true _ _ (by unfold arK; rw [show mZS S 0 = mZS (tkS S) 0 from rfl]; simp [h18]) hw hS
      · skip
        have h15 : (nI 1) < n := Int32.not_le.mp h15
        refine lv_iload hx hb dX4_addRow_49 (lv_at hl 1 rfl) ?_
        refine lv_if_eq (tgt := 70) hx hb dX4_addRow_51 (by decide) (fun _ => ?_) (fun q => absurd (by decide) q)
        refine lv_aload_n hx hb dX4_addRow_70 rfl (lv_at hl 2 rfl) ?_
        refine lv_iload hx hb dX4_addRow_71 (lv_at hl 1 rfl) ?_
        have K20 : ∀ (b9 : Bool) (H : Heap) (locs : List Loc), b9 = (arK S n) → wdM G (tkS S) H s → va_S (g_A G) s.heap H locs → W p l e ({ frames := 3, cells := 0, slots := 0, locals := 73 } : Room) s m ([.ref (g_ad G 9 0), .int n, .float dx, .float dy, .float dz, .int g, .int m9] : List Value).toArray below meth c H locs 0 0 (MQ below (Qi G (arMI S n dx dy dz g m9) (arMS S n dx dy dz g m9)) ([.ref (g_ad G 9 0), .int n, .float dx, .float dy, .float dz, .int g, .int m9] : List Value).toArray s ({ frames := 3, cells := 0, slots := 0, locals := 73 } : Room).cells ({ frames := 3, cells := 0, slots := 0, locals := 73 } : Room).slots (g_A G)) (F0 m 90 ls [.int (bI b9), .int (bI false), .ref (g_ad G 9 0)]) := by
          intro b9 H locs hb9 hw hS
          subst hb9
          refine cVi ⟨hx, hb, hml, hown, hts⟩ (m_goes l G (tkS S) false (arK S n)) (cwV 2 hts gX4_addRow_X4_goes rfl rfl rfl (by decide +kernel) ⟨(Nat.le_of_ble_eq_true rfl), (Nat.le_of_ble_eq_true rfl)⟩) hw hT hS (rcv hw hT 9 0 (by decide) rfl rfl) (As := [.int (bI false), .int (bI (arK S n))]) (rest := []) rfl hl.1 rfl (Nat.le_of_ble_eq_true rfl) dX4_addRow_90 ⟨(Nat.le_of_ble_eq_true rfl), (Nat.le_of_ble_eq_true rfl)⟩ (fun H locs hw hS => ?_)
          refine lv_if_ne (tgt := 98) hx hb dX4_addRow_93 (by decide) (fun h21 => ?_) (fun h21 => ?_)
          · skip
            have h21 := bI_n0.mp h21
            exact absurd h21 (by simp)
          · skip
            have h21 := bI_0.mp h21
            refine lv_iconst (v := nI 0) hx hb dX4_addRow_96 (by decide) ?_
            exact ri hx hb hlk hr (by unfold arMS; rw [e9, if_neg (by intro z; cases z)]; exact hw) hS (by unfold arMI; rw [e9, if_neg (by intro z; cases z)]) (vp_nar_int _) (Nat.le_of_ble_eq_true rfl) (Nat.le_of_ble_eq_true rfl) dX4_addRow_97
        refine lv_aload_n hx hb dX4_addRow_73 rfl (lv_at hl 2 rfl) ?_
        refine cVi ⟨hx, hb, hml, hown, hts⟩ (m_bodies l G (tkS S)) (cwV 0 hts gX4_addRow_X4_bodies rfl rfl rfl (by decide +kernel) ⟨(Nat.le_of_ble_eq_true rfl), (Nat.le_of_ble_eq_true rfl)⟩) hw hT hS (rcv hw hT 9 0 (by decide) rfl rfl) (As := []) (rest := [.int (bI false), .ref (g_ad G 9 0)]) rfl hl.1 rfl (Nat.le_of_ble_eq_true rfl) dX4_addRow_74 ⟨(Nat.le_of_ble_eq_true rfl), (Nat.le_of_ble_eq_true rfl)⟩ (fun H locs hw hS => ?_)
        refine lv_iload_n hx hb dX4_addRow_77 rfl (lv_at hl 3 rfl) ?_
        refine lv_iadd hx hb dX4_addRow_78 ?_
        refine lv_sipush (v := nI 512) hx hb dX4_addRow_79 (by decide) ?_
        refine lv_icmp_gt (tgt := 89) hx hb dX4_addRow_82 (by decide) (fun h22 => ?_) (fun h22 => ?_)
        · skip
          refine lv_iconst (v := nI 0) hx hb dX4_addRow_89 (by decide) ?_
          refine top_i (y := bI false) (by decide) ?_
          exact K20 false _ _ (by unfold arK; rw [show mZS S 0 = mZS (tkS S) 0 from rfl]; simp [h22]) hw hS
        · skip
          refine lv_iconst (v := nI 1) hx hb dX4_addRow_85 (by decide) ?_
          refine lv_goto (tgt := 90) hx hb dX4_addRow_86 (by decide) ?_
          refine top_i (y := bI true) (by decide) ?_
          exact K20 true _ _ (by unfold arK; rw [show mZS S 0 = mZS (tkS S) 0 from rfl]; simp [h22]) hw hS
  refine lv_iload_n hx hb dX4_addRow_0 rfl (lv_at hl 1 rfl) ?_
  refine lv_iconst (v := nI 1) hx hb dX4_addRow_1 (by decide) ?_
  refine lv_icmp_lt (tgt := 33) hx hb dX4_addRow_2 (by decide) (fun h23 => ?_) (fun h23 => ?_)
  · skip
    refine lv_iconst (v := nI 0) hx hb dX4_addRow_33 (by decide) ?_
    refine top_i (y := bI false) (by decide) ?_
    exact K1 false _ _ (by first | (simp only [arB, h23, Bool.true_and, Bool.false_and, Bool.and_true, Bool.and_false]; done) | simp [arB, h23]) hw hS
  · skip
    refine lv_iload_n hx hb dX4_addRow_5 rfl (lv_at hl 1 rfl) ?_
    refine lv_sipush (v := nI 512) hx hb dX4_addRow_6 (by decide) ?_
    refine lv_icmp_gt (tgt := 33) hx hb dX4_addRow_9 (by decide) (fun h24 => ?_) (fun h24 => ?_)
    · skip
      refine lv_iconst (v := nI 0) hx hb dX4_addRow_33 (by decide) ?_
      refine top_i (y := bI false) (by decide) ?_
      exact K1 false _ _ (by first | (simp only [arB, h23, h24, Bool.true_and, Bool.false_and, Bool.and_true, Bool.and_false]; done) | simp [arB, h23, h24]) hw hS
    · skip
      refine lv_aload_n hx hb dX4_addRow_12 rfl (lv_at hl 0 rfl) ?_
      refine cVi ⟨hx, hb, hml, hown, hts⟩ (m_padIsBox l G S) (cwV 0 hts gX4_addRow_X4_padIsBox rfl rfl rfl (by decide +kernel) ⟨(Nat.le_of_ble_eq_true rfl), (Nat.le_of_ble_eq_true rfl)⟩) hw hT hS (rcv hw hT 9 0 (by decide) rfl rfl) (As := []) (rest := []) rfl hl.1 rfl (Nat.le_of_ble_eq_true rfl) dX4_addRow_13 ⟨(Nat.le_of_ble_eq_true rfl), (Nat.le_of_ble_eq_true rfl)⟩ (fun H locs hw hS => ?_)
      refine lv_if_eq (tgt := 33) hx hb dX4_addRow_16 (by decide) (fun h25 => ?_) (fun h25 => ?_)
      · skip
        have h25 := bI_0.mp h25
        refine lv_iconst (v := nI 0) hx hb dX4_addRow_33 (by decide) ?_
        refine top_i (y := bI false) (by decide) ?_
        exact K1 false _ _ (by first | (simp only [arB, h23, h24, h25, Bool.true_and, Bool.false_and, Bool.and_true, Bool.and_false]; done) | simp [arB, h23, h24, h25]) hw hS
      · skip
        have h25 := bI_n0.mp h25
        refine lv_fload_n hx hb dX4_addRow_19 rfl (lv_at hl 2 rfl) ?_
        refine lv_fload_n hx hb dX4_addRow_20 rfl (lv_at hl 3 rfl) ?_
        refine lv_fload hx hb dX4_addRow_21 (lv_at hl 4 rfl) ?_
        refine cSi ⟨hx, hb, hml, hown, hts⟩ (m_slow l G S dx dy dz) (va_cwS 3 hts gX4_addRow_X4_slow rfl rfl rfl (by decide +kernel) ⟨(Nat.le_of_ble_eq_true rfl), (Nat.le_of_ble_eq_true rfl)⟩) hw hT hS (As := [.float dx, .float dy, .float dz]) (rest := []) rfl hl.1 rfl (Nat.le_of_ble_eq_true rfl) dX4_addRow_23 ⟨(Nat.le_of_ble_eq_true rfl), (Nat.le_of_ble_eq_true rfl)⟩ (fun H locs hw hS => ?_)
        refine lv_if_eq (tgt := 33) hx hb dX4_addRow_26 (by decide) (fun h26 => ?_) (fun h26 => ?_)
        · skip
          have h26 := bI_0.mp h26
          refine lv_iconst (v := nI 0) hx hb dX4_addRow_33 (by decide) ?_
          refine top_i (y := bI false) (by decide) ?_
          exact K1 false _ _ (by first | (simp only [arB, h23, h24, h25, h26, Bool.true_and, Bool.false_and, Bool.and_true, Bool.and_false]; done) | simp [arB, h23, h24, h25, h26]) hw hS
        · skip
          have h26 := bI_n0.mp h26
          refine lv_iconst (v := nI 1) hx hb dX4_addRow_29 (by decide) ?_
          refine lv_goto (tgt := 34) hx hb dX4_addRow_30 (by decide) ?_
          refine top_i (y := bI true) (by decide) ?_
          exact K1 true _ _ (by first | (simp only [arB, h23, h24, h25, h26, Bool.true_and, Bool.false_and, Bool.and_true, Bool.and_false]; done) | simp [arB, h23, h24, h25, h26]) hw hS
