/-! The model: bits, nth, pair, count -/
def wbI (x : Int32) : Nat → Int32
  | 0 => nI 0
  | j + 1 => wbI x j + ((x >>> (nI j &&& 31)) &&& nI 1)
def biF (f : Nat → Int32) : Nat → Int32
  | 0 => nI 0
  | i + 1 => if f i = 0 then biF f i else biF f i + wbI (f i) 32
def ntI (x : Int32) : Nat → Nat → Int32 → Option Nat × Int32
  | 0, _, k => (none, k)
  | n + 1, j, k => if k - ((x >>> (nI j &&& 31)) &&& nI 1) < 0 then (some j, k) else ntI x n (j + 1) (k - ((x >>> (nI j &&& 31)) &&& nI 1))
def ntO (f : Nat → Int32) : Nat → Nat → Int32 → Int32
  | 0, _, _ => -1
  | n + 1, i, k => if f i = 0 then ntO f n (i + 1) k else match ntI (f i) 32 0 k with
    | (some j, _) => nI (i / 16 * 512 + i % 16 * 32 + j)
    | (none, k') => ntO f n (i + 1) k'
theorem nt_s {f : Nat → Int32} {n i : Nat} {k k' : Int32} {j : Nat} (h : ¬ f i = 0) (h2 : ntI (f i) 32 0 k = (some j, k')) : ntO f (n + 1) i k = nI (i / 16 * 512 + i % 16 * 32 + j) := by
  rw [ntO, if_neg h, h2]
theorem nt_n {f : Nat → Int32} {n i : Nat} {k k' : Int32} (h : ¬ f i = 0) (h2 : ntI (f i) 32 0 k = (none, k')) : ntO f (n + 1) i k = ntO f n (i + 1) k' := by
  rw [ntO, if_neg h, h2]
theorem nt_0 {f : Nat → Int32} {n i : Nat} {k : Int32} (h : f i = 0) : ntO f (n + 1) i k = ntO f n (i + 1) k := by
  rw [ntO, if_pos h]
theorem bi_0 {f : Nat → Int32} {i : Nat} (h : f i = 0) : biF f i = biF f (i + 1) := by rw [biF, if_pos h]
theorem bi_s {f : Nat → Int32} {i : Nat} (h : ¬ f i = 0) : biF f i + wbI (f i) 32 = biF f (i + 1) := by rw [biF, if_neg h]
def prM (S : St) (wh k : Int32) : Int32 := if k < 0 then -1 else if wh = 0 then ntO (mIS S 2) 8192 0 k else if wh = nI 1 then ntO (mIS S 4) 8192 0 k else if wh = nI 2 then ntO (mIS S 5) 8192 0 k else -1
def prMS (S : St) (wh k : Int32) : St := gsS S (!(decide (prM S wh k < 0))) true
def prMI (S : St) (wh k : Int32) : Int32 := if (!(decide (prM S wh k < 0)) && true) = true then prM S wh k else nI 0
def cuMS (S : St) (wh : Int32) : St := gsS S (!(decide (wh < 0)) && !(decide (nI 6 < wh))) true
def cuM (S : St) (wh : Int32) : Int32 := if ((!(decide (wh < 0)) && !(decide (nI 6 < wh))) && true) = true then (if wh = nI 0 then nI (ctB (mZS S 0) 512) else if wh = nI 1 then biF (mIS S 2) 8192 else if wh = nI 2 then biF (mIS S 4) 8192 else if wh = nI 3 then biF (mIS S 5) 8192 else if wh = nI 4 then mnS S 1 else if wh = nI 5 then nI (ctB (mZS S 1) 512) else mnS S 2) else nI 0
theorem sw_6 {j : Nat} (h : j < 6) : j = 0 ∨ j = 1 ∨ j = 2 ∨ j = 3 ∨ j = 4 ∨ j = 5 := by omega
set_option maxRecDepth 100000 in
set_option maxHeartbeats 1000000 in
theorem m_bits2 (l : Launch) (G : Gm) (S : St)  : Pi l yX4_bits wsX4_bits ({ frames := 0, cells := 0, slots := 0, locals := 0 } : Room) [.ref (g_ad G 11 2)] G S (biF (mIS S 2) 8192) S := by
  refine ent (cc := cX4_bits) (maxL := 4) (ret := (some .int)) (by decide) rfl (Nat.le_of_ble_eq_true rfl) ?_
  intro p e s m below meth c ls C hw hT hS hl
  obtain ⟨hx, hb, hr, hml, hown, hts, hlk⟩ := C
  have hl : lv_has ls 4 [(0, .ref (g_ad G 11 2))] := hl
  refine lv_iconst (v := nI 0) hx hb dX4_bits_0 (by decide) ?_
  refine lv_istore_n (lv' := [(1, .int (nI 0)), (0, .ref (g_ad G 11 2))]) hx hb dX4_bits_1 rfl hl (by decide) rfl (fun ls hl => ?_)
  refine lv_iconst (v := nI 0) hx hb dX4_bits_2 (by decide) ?_
  refine lv_istore_n (lv' := [(2, .int (nI 0)), (1, .int (nI 0)), (0, .ref (g_ad G 11 2))]) hx hb dX4_bits_3 rfl hl (by decide) rfl (fun ls hl => ?_)
  have LOOP : ∀ (n o : Nat) (ac : Int32) (H : Heap) (locs : List Loc) (ls : Array Slot), o + n = 8192 → (ac = biF (mIS S 2) o) → wdM G S H s → va_S (g_A G) s.heap H locs → lv_has ls 4 [(2, .int (nI o)), (1, .int ac), (0, .ref (g_ad G 11 2))] → W p l e ({ frames := 0, cells := 0, slots := 0, locals := 0 } : Room) s m ([.ref (g_ad G 11 2)] : List Value).toArray below meth c H locs 0 0 (MQ below (Qi G (biF (mIS S 2) 8192) S) ([.ref (g_ad G 11 2)] : List Value).toArray s ({ frames := 0, cells := 0, slots := 0, locals := 0 } : Room).cells ({ frames := 0, cells := 0, slots := 0, locals := 0 } : Room).slots (g_A G)) (F0 m 4 ls []) := by
    intro n
    induction n with
    | zero =>
      intro o ac H locs ls hn ha9 hw hS hl
      obtain rfl : 8192 = o := by omega
      refine lv_iload_n hx hb dX4_bits_4 rfl (lv_at hl 0 rfl) ?_
      refine lv_sipush (v := nI 8192) hx hb dX4_bits_5 (by decide) ?_
      refine lv_icmp_ge (tgt := 47) hx hb dX4_bits_8 (by decide) (fun _ => ?_) (fun q => absurd (by decide) q)
      refine lv_iload_n hx hb dX4_bits_47 rfl (lv_at hl 1 rfl) ?_
      exact ri hx hb hlk hr hw hS ha9 (vp_nar_int _) (Nat.le_of_ble_eq_true rfl) (Nat.le_of_ble_eq_true rfl) dX4_bits_48
    | succ n ih =>
      intro o ac H locs ls hn ha9 hw hS hl
      have ho : o < 8192 := by omega
      refine lv_iload_n hx hb dX4_bits_4 rfl (lv_at hl 0 rfl) ?_
      refine lv_sipush (v := nI 8192) hx hb dX4_bits_5 (by decide) ?_
      refine lv_icmp_ge (tgt := 47) hx hb dX4_bits_8 (by decide) (fun q => absurd q (nI_ge ho (by decide))) (fun _ => ?_)
      refine lv_iconst (v := nI 0) hx hb dX4_bits_11 (by decide) ?_
      refine lv_istore_n (lv' := [(3, .int (nI 0)), (2, .int (nI o)), (1, .int ac), (0, .ref (g_ad G 11 2))]) hx hb dX4_bits_12 rfl hl (by decide) rfl (fun ls hl => ?_)
      by_cases h3 : mIS S 2 o = 0
      · skip
        refine lv_iload_n hx hb dX4_bits_13 rfl (lv_at hl 0 rfl) ?_
        refine lv_bipush (v := nI 32) hx hb dX4_bits_14 (by decide) ?_
        refine lv_icmp_ge (tgt := 41) hx hb dX4_bits_16 (by decide) (fun q => absurd q (by decide)) (fun _ => ?_)
        refine lv_aload_n hx hb dX4_bits_19 rfl (lv_at hl 3 rfl) ?_
        refine lv_iload_n hx hb dX4_bits_20 rfl (lv_at hl 1 rfl) ?_
        refine ail hx hb hw hT 11 2 (by decide) (f := mIS S 2) rfl o (show o < 8192 by omega) (by decide) dX4_bits_21 ?_
        refine lv_if_eq (tgt := 41) hx hb dX4_bits_22 (by decide) (fun _ => ?_) (fun q => absurd h3 q)
        refine lv_iinc (v := nI (o + 1)) (lv' := [(2, .int (nI (o + 1))), (3, .int (nI 0)), (1, .int ac), (0, .ref (g_ad G 11 2))]) hx hb dX4_bits_41 hl (k := 1) rfl (nI_add o 1) (by decide) rfl (fun ls hl => ?_)
        refine lv_goto (tgt := 4) hx hb dX4_bits_44 (by decide) ?_
        exact ih (o + 1) ac H locs ls (by omega) (ha9.trans (bi_0 h3)) hw hS (lv_sub hl [0, 2, 3] rfl)
      · skip
        have LOOP2 : ∀ (n2 j : Nat) (bc : Int32) (H : Heap) (locs : List Loc) (ls : Array Slot), j + n2 = 32 → (bc = ac + wbI (mIS S 2 o) j) → wdM G S H s → va_S (g_A G) s.heap H locs → lv_has ls 4 [(3, .int (nI j)), (2, .int (nI o)), (1, .int bc), (0, .ref (g_ad G 11 2))] → W p l e ({ frames := 0, cells := 0, slots := 0, locals := 0 } : Room) s m ([.ref (g_ad G 11 2)] : List Value).toArray below meth c H locs 0 0 (MQ below (Qi G (biF (mIS S 2) 8192) S) ([.ref (g_ad G 11 2)] : List Value).toArray s ({ frames := 0, cells := 0, slots := 0, locals := 0 } : Room).cells ({ frames := 0, cells := 0, slots := 0, locals := 0 } : Room).slots (g_A G)) (F0 m 13 ls []) := by
          intro n2
          induction n2 with
          | zero =>
            intro j bc H locs ls hn2 hb8 hw hS hl
            obtain rfl : 32 = j := by omega
            refine lv_iload_n hx hb dX4_bits_13 rfl (lv_at hl 0 rfl) ?_
            refine lv_bipush (v := nI 32) hx hb dX4_bits_14 (by decide) ?_
            refine lv_icmp_ge (tgt := 41) hx hb dX4_bits_16 (by decide) (fun _ => ?_) (fun q => absurd (by decide) q)
            refine lv_iinc (v := nI (o + 1)) (lv' := [(2, .int (nI (o + 1))), (3, .int (nI 32)), (1, .int bc), (0, .ref (g_ad G 11 2))]) hx hb dX4_bits_41 hl (k := 1) rfl (nI_add o 1) (by decide) rfl (fun ls hl => ?_)
            refine lv_goto (tgt := 4) hx hb dX4_bits_44 (by decide) ?_
            exact ih (o + 1) bc H locs ls (by omega) (by rw [hb8, ha9]; exact bi_s h3) hw hS (lv_sub hl [0, 2, 3] rfl)
          | succ n2 ih =>
            intro j bc H locs ls hn2 hb8 hw hS hl
            have hj : j < 32 := by omega
            refine lv_iload_n hx hb dX4_bits_13 rfl (lv_at hl 0 rfl) ?_
            refine lv_bipush (v := nI 32) hx hb dX4_bits_14 (by decide) ?_
            refine lv_icmp_ge (tgt := 41) hx hb dX4_bits_16 (by decide) (fun q => absurd q (nI_ge hj (by decide))) (fun _ => ?_)
            refine lv_aload_n hx hb dX4_bits_19 rfl (lv_at hl 3 rfl) ?_
            refine lv_iload_n hx hb dX4_bits_20 rfl (lv_at hl 1 rfl) ?_
            refine ail hx hb hw hT 11 2 (by decide) (f := mIS S 2) rfl o (show o < 8192 by omega) (by decide) dX4_bits_21 ?_
            refine lv_if_eq (tgt := 41) hx hb dX4_bits_22 (by decide) (fun z => absurd z h3) (fun _ => ?_)
            refine lv_iload_n hx hb dX4_bits_25 rfl (lv_at hl 2 rfl) ?_
            refine lv_aload_n hx hb dX4_bits_26 rfl (lv_at hl 3 rfl) ?_
            refine lv_iload_n hx hb dX4_bits_27 rfl (lv_at hl 1 rfl) ?_
            refine ail hx hb hw hT 11 2 (by decide) (f := mIS S 2) rfl o (show o < 8192 by omega) (by decide) dX4_bits_28 ?_
            refine lv_iload_n hx hb dX4_bits_29 rfl (lv_at hl 0 rfl) ?_
            refine lv_ishr hx hb dX4_bits_30 ?_
            refine lv_iconst (v := nI 1) hx hb dX4_bits_31 (by decide) ?_
            refine lv_iand hx hb dX4_bits_32 ?_
            refine lv_iadd hx hb dX4_bits_33 ?_
            refine lv_istore_n (lv' := [(1, .int (bc + (((mIS S 2 o) >>> ((nI j) &&& 31)) &&& (nI 1)))), (3, .int (nI j)), (2, .int (nI o)), (0, .ref (g_ad G 11 2))]) hx hb dX4_bits_34 rfl hl (by decide) rfl (fun ls hl => ?_)
            refine lv_iinc (v := nI (j + 1)) (lv' := [(3, .int (nI (j + 1))), (1, .int (bc + (((mIS S 2 o) >>> ((nI j) &&& 31)) &&& (nI 1)))), (2, .int (nI o)), (0, .ref (g_ad G 11 2))]) hx hb dX4_bits_35 hl (k := 1) rfl (nI_add j 1) (by decide) rfl (fun ls hl => ?_)
            refine lv_goto (tgt := 13) hx hb dX4_bits_38 (by decide) ?_
            exact ih (j + 1) (bc + (((mIS S 2 o) >>> ((nI j) &&& 31)) &&& (nI 1))) H locs ls (by omega) (by rw [hb8, wbI, Int32.add_assoc]) hw hS (lv_sub hl [0, 2, 1, 3] rfl)
        exact LOOP2 32 0 ac _ _ ls (by omega) (by rw [wbI]; exact (Int32.add_zero _).symm) hw hS (lv_sub hl [0, 1, 2, 3] rfl)
  exact LOOP 8192 0 (nI 0) _ _ ls (by omega) rfl hw hS (lv_sub hl [0, 1, 2] rfl)
set_option maxRecDepth 100000 in
set_option maxHeartbeats 1000000 in
theorem m_bits3 (l : Launch) (G : Gm) (S : St)  : Pi l yX4_bits wsX4_bits ({ frames := 0, cells := 0, slots := 0, locals := 0 } : Room) [.ref (g_ad G 11 3)] G S (biF (mIS S 3) 8192) S := by
  refine ent (cc := cX4_bits) (maxL := 4) (ret := (some .int)) (by decide) rfl (Nat.le_of_ble_eq_true rfl) ?_
  intro p e s m below meth c ls C hw hT hS hl
  obtain ⟨hx, hb, hr, hml, hown, hts, hlk⟩ := C
  have hl : lv_has ls 4 [(0, .ref (g_ad G 11 3))] := hl
  refine lv_iconst (v := nI 0) hx hb dX4_bits_0 (by decide) ?_
  refine lv_istore_n (lv' := [(1, .int (nI 0)), (0, .ref (g_ad G 11 3))]) hx hb dX4_bits_1 rfl hl (by decide) rfl (fun ls hl => ?_)
  refine lv_iconst (v := nI 0) hx hb dX4_bits_2 (by decide) ?_
  refine lv_istore_n (lv' := [(2, .int (nI 0)), (1, .int (nI 0)), (0, .ref (g_ad G 11 3))]) hx hb dX4_bits_3 rfl hl (by decide) rfl (fun ls hl => ?_)
  have LOOP : ∀ (n o : Nat) (ac : Int32) (H : Heap) (locs : List Loc) (ls : Array Slot), o + n = 8192 → (ac = biF (mIS S 3) o) → wdM G S H s → va_S (g_A G) s.heap H locs → lv_has ls 4 [(2, .int (nI o)), (1, .int ac), (0, .ref (g_ad G 11 3))] → W p l e ({ frames := 0, cells := 0, slots := 0, locals := 0 } : Room) s m ([.ref (g_ad G 11 3)] : List Value).toArray below meth c H locs 0 0 (MQ below (Qi G (biF (mIS S 3) 8192) S) ([.ref (g_ad G 11 3)] : List Value).toArray s ({ frames := 0, cells := 0, slots := 0, locals := 0 } : Room).cells ({ frames := 0, cells := 0, slots := 0, locals := 0 } : Room).slots (g_A G)) (F0 m 4 ls []) := by
    intro n
    induction n with
    | zero =>
      intro o ac H locs ls hn ha9 hw hS hl
      obtain rfl : 8192 = o := by omega
      refine lv_iload_n hx hb dX4_bits_4 rfl (lv_at hl 0 rfl) ?_
      refine lv_sipush (v := nI 8192) hx hb dX4_bits_5 (by decide) ?_
      refine lv_icmp_ge (tgt := 47) hx hb dX4_bits_8 (by decide) (fun _ => ?_) (fun q => absurd (by decide) q)
      refine lv_iload_n hx hb dX4_bits_47 rfl (lv_at hl 1 rfl) ?_
      exact ri hx hb hlk hr hw hS ha9 (vp_nar_int _) (Nat.le_of_ble_eq_true rfl) (Nat.le_of_ble_eq_true rfl) dX4_bits_48
    | succ n ih =>
      intro o ac H locs ls hn ha9 hw hS hl
      have ho : o < 8192 := by omega
      refine lv_iload_n hx hb dX4_bits_4 rfl (lv_at hl 0 rfl) ?_
      refine lv_sipush (v := nI 8192) hx hb dX4_bits_5 (by decide) ?_
      refine lv_icmp_ge (tgt := 47) hx hb dX4_bits_8 (by decide) (fun q => absurd q (nI_ge ho (by decide))) (fun _ => ?_)
      refine lv_iconst (v := nI 0) hx hb dX4_bits_11 (by decide) ?_
      refine lv_istore_n (lv' := [(3, .int (nI 0)), (2, .int (nI o)), (1, .int ac), (0, .ref (g_ad G 11 3))]) hx hb dX4_bits_12 rfl hl (by decide) rfl (fun ls hl => ?_)
      by_cases h3 : mIS S 3 o = 0
      · skip
        refine lv_iload_n hx hb dX4_bits_13 rfl (lv_at hl 0 rfl) ?_
        refine lv_bipush (v := nI 32) hx hb dX4_bits_14 (by decide) ?_
        refine lv_icmp_ge (tgt := 41) hx hb dX4_bits_16 (by decide) (fun q => absurd q (by decide)) (fun _ => ?_)
        refine lv_aload_n hx hb dX4_bits_19 rfl (lv_at hl 3 rfl) ?_
        refine lv_iload_n hx hb dX4_bits_20 rfl (lv_at hl 1 rfl) ?_
        refine ail hx hb hw hT 11 3 (by decide) (f := mIS S 3) rfl o (show o < 8192 by omega) (by decide) dX4_bits_21 ?_
        refine lv_if_eq (tgt := 41) hx hb dX4_bits_22 (by decide) (fun _ => ?_) (fun q => absurd h3 q)
        refine lv_iinc (v := nI (o + 1)) (lv' := [(2, .int (nI (o + 1))), (3, .int (nI 0)), (1, .int ac), (0, .ref (g_ad G 11 3))]) hx hb dX4_bits_41 hl (k := 1) rfl (nI_add o 1) (by decide) rfl (fun ls hl => ?_)
        refine lv_goto (tgt := 4) hx hb dX4_bits_44 (by decide) ?_
        exact ih (o + 1) ac H locs ls (by omega) (ha9.trans (bi_0 h3)) hw hS (lv_sub hl [0, 2, 3] rfl)
      · skip
        have LOOP2 : ∀ (n2 j : Nat) (bc : Int32) (H : Heap) (locs : List Loc) (ls : Array Slot), j + n2 = 32 → (bc = ac + wbI (mIS S 3 o) j) → wdM G S H s → va_S (g_A G) s.heap H locs → lv_has ls 4 [(3, .int (nI j)), (2, .int (nI o)), (1, .int bc), (0, .ref (g_ad G 11 3))] → W p l e ({ frames := 0, cells := 0, slots := 0, locals := 0 } : Room) s m ([.ref (g_ad G 11 3)] : List Value).toArray below meth c H locs 0 0 (MQ below (Qi G (biF (mIS S 3) 8192) S) ([.ref (g_ad G 11 3)] : List Value).toArray s ({ frames := 0, cells := 0, slots := 0, locals := 0 } : Room).cells ({ frames := 0, cells := 0, slots := 0, locals := 0 } : Room).slots (g_A G)) (F0 m 13 ls []) := by
          intro n2
          induction n2 with
          | zero =>
            intro j bc H locs ls hn2 hb8 hw hS hl
            obtain rfl : 32 = j := by omega
            refine lv_iload_n hx hb dX4_bits_13 rfl (lv_at hl 0 rfl) ?_
            refine lv_bipush (v := nI 32) hx hb dX4_bits_14 (by decide) ?_
            refine lv_icmp_ge (tgt := 41) hx hb dX4_bits_16 (by decide) (fun _ => ?_) (fun q => absurd (by decide) q)
            refine lv_iinc (v := nI (o + 1)) (lv' := [(2, .int (nI (o + 1))), (3, .int (nI 32)), (1, .int bc), (0, .ref (g_ad G 11 3))]) hx hb dX4_bits_41 hl (k := 1) rfl (nI_add o 1) (by decide) rfl (fun ls hl => ?_)
            refine lv_goto (tgt := 4) hx hb dX4_bits_44 (by decide) ?_
            exact ih (o + 1) bc H locs ls (by omega) (by rw [hb8, ha9]; exact bi_s h3) hw hS (lv_sub hl [0, 2, 3] rfl)
          | succ n2 ih =>
            intro j bc H locs ls hn2 hb8 hw hS hl
            have hj : j < 32 := by omega
            refine lv_iload_n hx hb dX4_bits_13 rfl (lv_at hl 0 rfl) ?_
            refine lv_bipush (v := nI 32) hx hb dX4_bits_14 (by decide) ?_
            refine lv_icmp_ge (tgt := 41) hx hb dX4_bits_16 (by decide) (fun q => absurd q (nI_ge hj (by decide))) (fun _ => ?_)
            refine lv_aload_n hx hb dX4_bits_19 rfl (lv_at hl 3 rfl) ?_
            refine lv_iload_n hx hb dX4_bits_20 rfl (lv_at hl 1 rfl) ?_
            refine ail hx hb hw hT 11 3 (by decide) (f := mIS S 3) rfl o (show o < 8192 by omega) (by decide) dX4_bits_21 ?_
            refine lv_if_eq (tgt := 41) hx hb dX4_bits_22 (by decide) (fun z => absurd z h3) (fun _ => ?_)
            refine lv_iload_n hx hb dX4_bits_25 rfl (lv_at hl 2 rfl) ?_
            refine lv_aload_n hx hb dX4_bits_26 rfl (lv_at hl 3 rfl) ?_
            refine lv_iload_n hx hb dX4_bits_27 rfl (lv_at hl 1 rfl) ?_
            refine ail hx hb hw hT 11 3 (by decide) (f := mIS S 3) rfl o (show o < 8192 by omega) (by decide) dX4_bits_28 ?_
            refine lv_iload_n hx hb dX4_bits_29 rfl (lv_at hl 0 rfl) ?_
            refine lv_ishr hx hb dX4_bits_30 ?_
            refine lv_iconst (v := nI 1) hx hb dX4_bits_31 (by decide) ?_
            refine lv_iand hx hb dX4_bits_32 ?_
            refine lv_iadd hx hb dX4_bits_33 ?_
            refine lv_istore_n (lv' := [(1, .int (bc + (((mIS S 3 o) >>> ((nI j) &&& 31)) &&& (nI 1)))), (3, .int (nI j)), (2, .int (nI o)), (0, .ref (g_ad G 11 3))]) hx hb dX4_bits_34 rfl hl (by decide) rfl (fun ls hl => ?_)
            refine lv_iinc (v := nI (j + 1)) (lv' := [(3, .int (nI (j + 1))), (1, .int (bc + (((mIS S 3 o) >>> ((nI j) &&& 31)) &&& (nI 1)))), (2, .int (nI o)), (0, .ref (g_ad G 11 3))]) hx hb dX4_bits_35 hl (k := 1) rfl (nI_add j 1) (by decide) rfl (fun ls hl => ?_)
            refine lv_goto (tgt := 13) hx hb dX4_bits_38 (by decide) ?_
            exact ih (j + 1) (bc + (((mIS S 3 o) >>> ((nI j) &&& 31)) &&& (nI 1))) H locs ls (by omega) (by rw [hb8, wbI, Int32.add_assoc]) hw hS (lv_sub hl [0, 2, 1, 3] rfl)
        exact LOOP2 32 0 ac _ _ ls (by omega) (by rw [wbI]; exact (Int32.add_zero _).symm) hw hS (lv_sub hl [0, 1, 2, 3] rfl)
  exact LOOP 8192 0 (nI 0) _ _ ls (by omega) rfl hw hS (lv_sub hl [0, 1, 2] rfl)
set_option maxRecDepth 100000 in
set_option maxHeartbeats 1000000 in
theorem m_bits4 (l : Launch) (G : Gm) (S : St)  : Pi l yX4_bits wsX4_bits ({ frames := 0, cells := 0, slots := 0, locals := 0 } : Room) [.ref (g_ad G 11 4)] G S (biF (mIS S 4) 8192) S := by
  refine ent (cc := cX4_bits) (maxL := 4) (ret := (some .int)) (by decide) rfl (Nat.le_of_ble_eq_true rfl) ?_
  intro p e s m below meth c ls C hw hT hS hl
  obtain ⟨hx, hb, hr, hml, hown, hts, hlk⟩ := C
  have hl : lv_has ls 4 [(0, .ref (g_ad G 11 4))] := hl
  refine lv_iconst (v := nI 0) hx hb dX4_bits_0 (by decide) ?_
  refine lv_istore_n (lv' := [(1, .int (nI 0)), (0, .ref (g_ad G 11 4))]) hx hb dX4_bits_1 rfl hl (by decide) rfl (fun ls hl => ?_)
  refine lv_iconst (v := nI 0) hx hb dX4_bits_2 (by decide) ?_
  refine lv_istore_n (lv' := [(2, .int (nI 0)), (1, .int (nI 0)), (0, .ref (g_ad G 11 4))]) hx hb dX4_bits_3 rfl hl (by decide) rfl (fun ls hl => ?_)
  have LOOP : ∀ (n o : Nat) (ac : Int32) (H : Heap) (locs : List Loc) (ls : Array Slot), o + n = 8192 → (ac = biF (mIS S 4) o) → wdM G S H s → va_S (g_A G) s.heap H locs → lv_has ls 4 [(2, .int (nI o)), (1, .int ac), (0, .ref (g_ad G 11 4))] → W p l e ({ frames := 0, cells := 0, slots := 0, locals := 0 } : Room) s m ([.ref (g_ad G 11 4)] : List Value).toArray below meth c H locs 0 0 (MQ below (Qi G (biF (mIS S 4) 8192) S) ([.ref (g_ad G 11 4)] : List Value).toArray s ({ frames := 0, cells := 0, slots := 0, locals := 0 } : Room).cells ({ frames := 0, cells := 0, slots := 0, locals := 0 } : Room).slots (g_A G)) (F0 m 4 ls []) := by
    intro n
    induction n with
    | zero =>
      intro o ac H locs ls hn ha9 hw hS hl
      obtain rfl : 8192 = o := by omega
      refine lv_iload_n hx hb dX4_bits_4 rfl (lv_at hl 0 rfl) ?_
      refine lv_sipush (v := nI 8192) hx hb dX4_bits_5 (by decide) ?_
      refine lv_icmp_ge (tgt := 47) hx hb dX4_bits_8 (by decide) (fun _ => ?_) (fun q => absurd (by decide) q)
      refine lv_iload_n hx hb dX4_bits_47 rfl (lv_at hl 1 rfl) ?_
      exact ri hx hb hlk hr hw hS ha9 (vp_nar_int _) (Nat.le_of_ble_eq_true rfl) (Nat.le_of_ble_eq_true rfl) dX4_bits_48
    | succ n ih =>
      intro o ac H locs ls hn ha9 hw hS hl
      have ho : o < 8192 := by omega
      refine lv_iload_n hx hb dX4_bits_4 rfl (lv_at hl 0 rfl) ?_
      refine lv_sipush (v := nI 8192) hx hb dX4_bits_5 (by decide) ?_
      refine lv_icmp_ge (tgt := 47) hx hb dX4_bits_8 (by decide) (fun q => absurd q (nI_ge ho (by decide))) (fun _ => ?_)
      refine lv_iconst (v := nI 0) hx hb dX4_bits_11 (by decide) ?_
      refine lv_istore_n (lv' := [(3, .int (nI 0)), (2, .int (nI o)), (1, .int ac), (0, .ref (g_ad G 11 4))]) hx hb dX4_bits_12 rfl hl (by decide) rfl (fun ls hl => ?_)
      by_cases h3 : mIS S 4 o = 0
      · skip
        refine lv_iload_n hx hb dX4_bits_13 rfl (lv_at hl 0 rfl) ?_
        refine lv_bipush (v := nI 32) hx hb dX4_bits_14 (by decide) ?_
        refine lv_icmp_ge (tgt := 41) hx hb dX4_bits_16 (by decide) (fun q => absurd q (by decide)) (fun _ => ?_)
        refine lv_aload_n hx hb dX4_bits_19 rfl (lv_at hl 3 rfl) ?_
        refine lv_iload_n hx hb dX4_bits_20 rfl (lv_at hl 1 rfl) ?_
        refine ail hx hb hw hT 11 4 (by decide) (f := mIS S 4) rfl o (show o < 8192 by omega) (by decide) dX4_bits_21 ?_
        refine lv_if_eq (tgt := 41) hx hb dX4_bits_22 (by decide) (fun _ => ?_) (fun q => absurd h3 q)
        refine lv_iinc (v := nI (o + 1)) (lv' := [(2, .int (nI (o + 1))), (3, .int (nI 0)), (1, .int ac), (0, .ref (g_ad G 11 4))]) hx hb dX4_bits_41 hl (k := 1) rfl (nI_add o 1) (by decide) rfl (fun ls hl => ?_)
        refine lv_goto (tgt := 4) hx hb dX4_bits_44 (by decide) ?_
        exact ih (o + 1) ac H locs ls (by omega) (ha9.trans (bi_0 h3)) hw hS (lv_sub hl [0, 2, 3] rfl)
      · skip
        have LOOP2 : ∀ (n2 j : Nat) (bc : Int32) (H : Heap) (locs : List Loc) (ls : Array Slot), j + n2 = 32 → (bc = ac + wbI (mIS S 4 o) j) → wdM G S H s → va_S (g_A G) s.heap H locs → lv_has ls 4 [(3, .int (nI j)), (2, .int (nI o)), (1, .int bc), (0, .ref (g_ad G 11 4))] → W p l e ({ frames := 0, cells := 0, slots := 0, locals := 0 } : Room) s m ([.ref (g_ad G 11 4)] : List Value).toArray below meth c H locs 0 0 (MQ below (Qi G (biF (mIS S 4) 8192) S) ([.ref (g_ad G 11 4)] : List Value).toArray s ({ frames := 0, cells := 0, slots := 0, locals := 0 } : Room).cells ({ frames := 0, cells := 0, slots := 0, locals := 0 } : Room).slots (g_A G)) (F0 m 13 ls []) := by
          intro n2
          induction n2 with
          | zero =>
            intro j bc H locs ls hn2 hb8 hw hS hl
            obtain rfl : 32 = j := by omega
            refine lv_iload_n hx hb dX4_bits_13 rfl (lv_at hl 0 rfl) ?_
            refine lv_bipush (v := nI 32) hx hb dX4_bits_14 (by decide) ?_
            refine lv_icmp_ge (tgt := 41) hx hb dX4_bits_16 (by decide) (fun _ => ?_) (fun q => absurd (by decide) q)
            refine lv_iinc (v := nI (o + 1)) (lv' := [(2, .int (nI (o + 1))), (3, .int (nI 32)), (1, .int bc), (0, .ref (g_ad G 11 4))]) hx hb dX4_bits_41 hl (k := 1) rfl (nI_add o 1) (by decide) rfl (fun ls hl => ?_)
            refine lv_goto (tgt := 4) hx hb dX4_bits_44 (by decide) ?_
            exact ih (o + 1) bc H locs ls (by omega) (by rw [hb8, ha9]; exact bi_s h3) hw hS (lv_sub hl [0, 2, 3] rfl)
          | succ n2 ih =>
            intro j bc H locs ls hn2 hb8 hw hS hl
            have hj : j < 32 := by omega
            refine lv_iload_n hx hb dX4_bits_13 rfl (lv_at hl 0 rfl) ?_
            refine lv_bipush (v := nI 32) hx hb dX4_bits_14 (by decide) ?_
            refine lv_icmp_ge (tgt := 41) hx hb dX4_bits_16 (by decide) (fun q => absurd q (nI_ge hj (by decide))) (fun _ => ?_)
            refine lv_aload_n hx hb dX4_bits_19 rfl (lv_at hl 3 rfl) ?_
            refine lv_iload_n hx hb dX4_bits_20 rfl (lv_at hl 1 rfl) ?_
            refine ail hx hb hw hT 11 4 (by decide) (f := mIS S 4) rfl o (show o < 8192 by omega) (by decide) dX4_bits_21 ?_
            refine lv_if_eq (tgt := 41) hx hb dX4_bits_22 (by decide) (fun z => absurd z h3) (fun _ => ?_)
            refine lv_iload_n hx hb dX4_bits_25 rfl (lv_at hl 2 rfl) ?_
            refine lv_aload_n hx hb dX4_bits_26 rfl (lv_at hl 3 rfl) ?_
            refine lv_iload_n hx hb dX4_bits_27 rfl (lv_at hl 1 rfl) ?_
            refine ail hx hb hw hT 11 4 (by decide) (f := mIS S 4) rfl o (show o < 8192 by omega) (by decide) dX4_bits_28 ?_
            refine lv_iload_n hx hb dX4_bits_29 rfl (lv_at hl 0 rfl) ?_
            refine lv_ishr hx hb dX4_bits_30 ?_
            refine lv_iconst (v := nI 1) hx hb dX4_bits_31 (by decide) ?_
            refine lv_iand hx hb dX4_bits_32 ?_
            refine lv_iadd hx hb dX4_bits_33 ?_
            refine lv_istore_n (lv' := [(1, .int (bc + (((mIS S 4 o) >>> ((nI j) &&& 31)) &&& (nI 1)))), (3, .int (nI j)), (2, .int (nI o)), (0, .ref (g_ad G 11 4))]) hx hb dX4_bits_34 rfl hl (by decide) rfl (fun ls hl => ?_)
            refine lv_iinc (v := nI (j + 1)) (lv' := [(3, .int (nI (j + 1))), (1, .int (bc + (((mIS S 4 o) >>> ((nI j) &&& 31)) &&& (nI 1)))), (2, .int (nI o)), (0, .ref (g_ad G 11 4))]) hx hb dX4_bits_35 hl (k := 1) rfl (nI_add j 1) (by decide) rfl (fun ls hl => ?_)
            refine lv_goto (tgt := 13) hx hb dX4_bits_38 (by decide) ?_
            exact ih (j + 1) (bc + (((mIS S 4 o) >>> ((nI j) &&& 31)) &&& (nI 1))) H locs ls (by omega) (by rw [hb8, wbI, Int32.add_assoc]) hw hS (lv_sub hl [0, 2, 1, 3] rfl)
        exact LOOP2 32 0 ac _ _ ls (by omega) (by rw [wbI]; exact (Int32.add_zero _).symm) hw hS (lv_sub hl [0, 1, 2, 3] rfl)
  exact LOOP 8192 0 (nI 0) _ _ ls (by omega) rfl hw hS (lv_sub hl [0, 1, 2] rfl)
set_option maxRecDepth 100000 in
set_option maxHeartbeats 1000000 in
theorem m_bits5 (l : Launch) (G : Gm) (S : St)  : Pi l yX4_bits wsX4_bits ({ frames := 0, cells := 0, slots := 0, locals := 0 } : Room) [.ref (g_ad G 11 5)] G S (biF (mIS S 5) 8192) S := by
  refine ent (cc := cX4_bits) (maxL := 4) (ret := (some .int)) (by decide) rfl (Nat.le_of_ble_eq_true rfl) ?_
  intro p e s m below meth c ls C hw hT hS hl
  obtain ⟨hx, hb, hr, hml, hown, hts, hlk⟩ := C
  have hl : lv_has ls 4 [(0, .ref (g_ad G 11 5))] := hl
  refine lv_iconst (v := nI 0) hx hb dX4_bits_0 (by decide) ?_
  refine lv_istore_n (lv' := [(1, .int (nI 0)), (0, .ref (g_ad G 11 5))]) hx hb dX4_bits_1 rfl hl (by decide) rfl (fun ls hl => ?_)
  refine lv_iconst (v := nI 0) hx hb dX4_bits_2 (by decide) ?_
  refine lv_istore_n (lv' := [(2, .int (nI 0)), (1, .int (nI 0)), (0, .ref (g_ad G 11 5))]) hx hb dX4_bits_3 rfl hl (by decide) rfl (fun ls hl => ?_)
  have LOOP : ∀ (n o : Nat) (ac : Int32) (H : Heap) (locs : List Loc) (ls : Array Slot), o + n = 8192 → (ac = biF (mIS S 5) o) → wdM G S H s → va_S (g_A G) s.heap H locs → lv_has ls 4 [(2, .int (nI o)), (1, .int ac), (0, .ref (g_ad G 11 5))] → W p l e ({ frames := 0, cells := 0, slots := 0, locals := 0 } : Room) s m ([.ref (g_ad G 11 5)] : List Value).toArray below meth c H locs 0 0 (MQ below (Qi G (biF (mIS S 5) 8192) S) ([.ref (g_ad G 11 5)] : List Value).toArray s ({ frames := 0, cells := 0, slots := 0, locals := 0 } : Room).cells ({ frames := 0, cells := 0, slots := 0, locals := 0 } : Room).slots (g_A G)) (F0 m 4 ls []) := by
    intro n
    induction n with
    | zero =>
      intro o ac H locs ls hn ha9 hw hS hl
      obtain rfl : 8192 = o := by omega
      refine lv_iload_n hx hb dX4_bits_4 rfl (lv_at hl 0 rfl) ?_
      refine lv_sipush (v := nI 8192) hx hb dX4_bits_5 (by decide) ?_
      refine lv_icmp_ge (tgt := 47) hx hb dX4_bits_8 (by decide) (fun _ => ?_) (fun q => absurd (by decide) q)
      refine lv_iload_n hx hb dX4_bits_47 rfl (lv_at hl 1 rfl) ?_
      exact ri hx hb hlk hr hw hS ha9 (vp_nar_int _) (Nat.le_of_ble_eq_true rfl) (Nat.le_of_ble_eq_true rfl) dX4_bits_48
    | succ n ih =>
      intro o ac H locs ls hn ha9 hw hS hl
      have ho : o < 8192 := by omega
      refine lv_iload_n hx hb dX4_bits_4 rfl (lv_at hl 0 rfl) ?_
      refine lv_sipush (v := nI 8192) hx hb dX4_bits_5 (by decide) ?_
      refine lv_icmp_ge (tgt := 47) hx hb dX4_bits_8 (by decide) (fun q => absurd q (nI_ge ho (by decide))) (fun _ => ?_)
      refine lv_iconst (v := nI 0) hx hb dX4_bits_11 (by decide) ?_
      refine lv_istore_n (lv' := [(3, .int (nI 0)), (2, .int (nI o)), (1, .int ac), (0, .ref (g_ad G 11 5))]) hx hb dX4_bits_12 rfl hl (by decide) rfl (fun ls hl => ?_)
      by_cases h3 : mIS S 5 o = 0
      · skip
        refine lv_iload_n hx hb dX4_bits_13 rfl (lv_at hl 0 rfl) ?_
        refine lv_bipush (v := nI 32) hx hb dX4_bits_14 (by decide) ?_
        refine lv_icmp_ge (tgt := 41) hx hb dX4_bits_16 (by decide) (fun q => absurd q (by decide)) (fun _ => ?_)
        refine lv_aload_n hx hb dX4_bits_19 rfl (lv_at hl 3 rfl) ?_
        refine lv_iload_n hx hb dX4_bits_20 rfl (lv_at hl 1 rfl) ?_
        refine ail hx hb hw hT 11 5 (by decide) (f := mIS S 5) rfl o (show o < 8192 by omega) (by decide) dX4_bits_21 ?_
        refine lv_if_eq (tgt := 41) hx hb dX4_bits_22 (by decide) (fun _ => ?_) (fun q => absurd h3 q)
        refine lv_iinc (v := nI (o + 1)) (lv' := [(2, .int (nI (o + 1))), (3, .int (nI 0)), (1, .int ac), (0, .ref (g_ad G 11 5))]) hx hb dX4_bits_41 hl (k := 1) rfl (nI_add o 1) (by decide) rfl (fun ls hl => ?_)
        refine lv_goto (tgt := 4) hx hb dX4_bits_44 (by decide) ?_
        exact ih (o + 1) ac H locs ls (by omega) (ha9.trans (bi_0 h3)) hw hS (lv_sub hl [0, 2, 3] rfl)
      · skip
        have LOOP2 : ∀ (n2 j : Nat) (bc : Int32) (H : Heap) (locs : List Loc) (ls : Array Slot), j + n2 = 32 → (bc = ac + wbI (mIS S 5 o) j) → wdM G S H s → va_S (g_A G) s.heap H locs → lv_has ls 4 [(3, .int (nI j)), (2, .int (nI o)), (1, .int bc), (0, .ref (g_ad G 11 5))] → W p l e ({ frames := 0, cells := 0, slots := 0, locals := 0 } : Room) s m ([.ref (g_ad G 11 5)] : List Value).toArray below meth c H locs 0 0 (MQ below (Qi G (biF (mIS S 5) 8192) S) ([.ref (g_ad G 11 5)] : List Value).toArray s ({ frames := 0, cells := 0, slots := 0, locals := 0 } : Room).cells ({ frames := 0, cells := 0, slots := 0, locals := 0 } : Room).slots (g_A G)) (F0 m 13 ls []) := by
          intro n2
          induction n2 with
          | zero =>
            intro j bc H locs ls hn2 hb8 hw hS hl
            obtain rfl : 32 = j := by omega
            refine lv_iload_n hx hb dX4_bits_13 rfl (lv_at hl 0 rfl) ?_
            refine lv_bipush (v := nI 32) hx hb dX4_bits_14 (by decide) ?_
            refine lv_icmp_ge (tgt := 41) hx hb dX4_bits_16 (by decide) (fun _ => ?_) (fun q => absurd (by decide) q)
            refine lv_iinc (v := nI (o + 1)) (lv' := [(2, .int (nI (o + 1))), (3, .int (nI 32)), (1, .int bc), (0, .ref (g_ad G 11 5))]) hx hb dX4_bits_41 hl (k := 1) rfl (nI_add o 1) (by decide) rfl (fun ls hl => ?_)
            refine lv_goto (tgt := 4) hx hb dX4_bits_44 (by decide) ?_
            exact ih (o + 1) bc H locs ls (by omega) (by rw [hb8, ha9]; exact bi_s h3) hw hS (lv_sub hl [0, 2, 3] rfl)
          | succ n2 ih =>
            intro j bc H locs ls hn2 hb8 hw hS hl
            have hj : j < 32 := by omega
            refine lv_iload_n hx hb dX4_bits_13 rfl (lv_at hl 0 rfl) ?_
            refine lv_bipush (v := nI 32) hx hb dX4_bits_14 (by decide) ?_
            refine lv_icmp_ge (tgt := 41) hx hb dX4_bits_16 (by decide) (fun q => absurd q (nI_ge hj (by decide))) (fun _ => ?_)
            refine lv_aload_n hx hb dX4_bits_19 rfl (lv_at hl 3 rfl) ?_
            refine lv_iload_n hx hb dX4_bits_20 rfl (lv_at hl 1 rfl) ?_
            refine ail hx hb hw hT 11 5 (by decide) (f := mIS S 5) rfl o (show o < 8192 by omega) (by decide) dX4_bits_21 ?_
            refine lv_if_eq (tgt := 41) hx hb dX4_bits_22 (by decide) (fun z => absurd z h3) (fun _ => ?_)
            refine lv_iload_n hx hb dX4_bits_25 rfl (lv_at hl 2 rfl) ?_
            refine lv_aload_n hx hb dX4_bits_26 rfl (lv_at hl 3 rfl) ?_
            refine lv_iload_n hx hb dX4_bits_27 rfl (lv_at hl 1 rfl) ?_
            refine ail hx hb hw hT 11 5 (by decide) (f := mIS S 5) rfl o (show o < 8192 by omega) (by decide) dX4_bits_28 ?_
            refine lv_iload_n hx hb dX4_bits_29 rfl (lv_at hl 0 rfl) ?_
            refine lv_ishr hx hb dX4_bits_30 ?_
            refine lv_iconst (v := nI 1) hx hb dX4_bits_31 (by decide) ?_
            refine lv_iand hx hb dX4_bits_32 ?_
            refine lv_iadd hx hb dX4_bits_33 ?_
            refine lv_istore_n (lv' := [(1, .int (bc + (((mIS S 5 o) >>> ((nI j) &&& 31)) &&& (nI 1)))), (3, .int (nI j)), (2, .int (nI o)), (0, .ref (g_ad G 11 5))]) hx hb dX4_bits_34 rfl hl (by decide) rfl (fun ls hl => ?_)
            refine lv_iinc (v := nI (j + 1)) (lv' := [(3, .int (nI (j + 1))), (1, .int (bc + (((mIS S 5 o) >>> ((nI j) &&& 31)) &&& (nI 1)))), (2, .int (nI o)), (0, .ref (g_ad G 11 5))]) hx hb dX4_bits_35 hl (k := 1) rfl (nI_add j 1) (by decide) rfl (fun ls hl => ?_)
            refine lv_goto (tgt := 13) hx hb dX4_bits_38 (by decide) ?_
            exact ih (j + 1) (bc + (((mIS S 5 o) >>> ((nI j) &&& 31)) &&& (nI 1))) H locs ls (by omega) (by rw [hb8, wbI, Int32.add_assoc]) hw hS (lv_sub hl [0, 2, 1, 3] rfl)
        exact LOOP2 32 0 ac _ _ ls (by omega) (by rw [wbI]; exact (Int32.add_zero _).symm) hw hS (lv_sub hl [0, 1, 2, 3] rfl)
  exact LOOP 8192 0 (nI 0) _ _ ls (by omega) rfl hw hS (lv_sub hl [0, 1, 2] rfl)
set_option maxRecDepth 100000 in
set_option maxHeartbeats 1000000 in
theorem m_nth2 (l : Launch) (G : Gm) (S : St) (k0 : Int32) (hk0 : ¬ k0 < 0) : Pi l yX4_nth wsX4_nth ({ frames := 0, cells := 0, slots := 0, locals := 0 } : Room) [.ref (g_ad G 11 2), .int k0] G S (ntO (mIS S 2) 8192 0 k0) S := by
  refine ent (cc := cX4_nth) (maxL := 5) (ret := (some .int)) (by decide) rfl (Nat.le_of_ble_eq_true rfl) ?_
  intro p e s m below meth c ls C hw hT hS hl
  obtain ⟨hx, hb, hr, hml, hown, hts, hlk⟩ := C
  have hl : lv_has ls 5 [(0, .ref (g_ad G 11 2)), (1, .int k0)] := hl
  refine lv_iload_n hx hb dX4_nth_0 rfl (lv_at hl 1 rfl) ?_
  refine lv_istore_n (lv' := [(2, .int k0), (0, .ref (g_ad G 11 2)), (1, .int k0)]) hx hb dX4_nth_1 rfl hl (by decide) rfl (fun ls hl => ?_)
  refine lv_iconst (v := nI 0) hx hb dX4_nth_2 (by decide) ?_
  refine lv_istore_n (lv' := [(3, .int (nI 0)), (2, .int k0), (0, .ref (g_ad G 11 2)), (1, .int k0)]) hx hb dX4_nth_3 rfl hl (by decide) rfl (fun ls hl => ?_)
  have LOOP : ∀ (n o : Nat) (kk : Int32) (H : Heap) (locs : List Loc) (ls : Array Slot), o + n = 8192 → (ntO (mIS S 2) n o kk = ntO (mIS S 2) 8192 0 k0) → (¬ kk < 0) → wdM G S H s → va_S (g_A G) s.heap H locs → lv_has ls 5 [(3, .int (nI o)), (2, .int kk), (0, .ref (g_ad G 11 2)), (1, .int k0)] → W p l e ({ frames := 0, cells := 0, slots := 0, locals := 0 } : Room) s m ([.ref (g_ad G 11 2), .int k0] : List Value).toArray below meth c H locs 0 0 (MQ below (Qi G (ntO (mIS S 2) 8192 0 k0) S) ([.ref (g_ad G 11 2), .int k0] : List Value).toArray s ({ frames := 0, cells := 0, slots := 0, locals := 0 } : Room).cells ({ frames := 0, cells := 0, slots := 0, locals := 0 } : Room).slots (g_A G)) (F0 m 4 ls []) := by
    intro n
    induction n with
    | zero =>
      intro o kk H locs ls hn hq hk8 hw hS hl
      obtain rfl : 8192 = o := by omega
      refine lv_iload_n hx hb dX4_nth_4 rfl (lv_at hl 0 rfl) ?_
      refine lv_sipush (v := nI 8192) hx hb dX4_nth_5 (by decide) ?_
      refine lv_icmp_ge (tgt := 78) hx hb dX4_nth_8 (by decide) (fun _ => ?_) (fun q => absurd (by decide) q)
      refine lv_iconst (v := (-1)) hx hb dX4_nth_78 (by decide) ?_
      exact ri hx hb hlk hr hw hS (by rw [← hq]; rfl) (vp_nar_int _) (Nat.le_of_ble_eq_true rfl) (Nat.le_of_ble_eq_true rfl) dX4_nth_79
    | succ n ih =>
      intro o kk H locs ls hn hq hk8 hw hS hl
      have ho : o < 8192 := by omega
      refine lv_iload_n hx hb dX4_nth_4 rfl (lv_at hl 0 rfl) ?_
      refine lv_sipush (v := nI 8192) hx hb dX4_nth_5 (by decide) ?_
      refine lv_icmp_ge (tgt := 78) hx hb dX4_nth_8 (by decide) (fun q => absurd q (nI_ge ho (by decide))) (fun _ => ?_)
      refine lv_iload_n hx hb dX4_nth_11 rfl (lv_at hl 1 rfl) ?_
      refine lv_if_lt (tgt := 78) hx hb dX4_nth_12 (by decide) (fun q => absurd q hk8) (fun _ => ?_)
      refine lv_iconst (v := nI 0) hx hb dX4_nth_15 (by decide) ?_
      refine lv_istore (lv' := [(4, .int (nI 0)), (3, .int (nI o)), (2, .int kk), (0, .ref (g_ad G 11 2)), (1, .int k0)]) hx hb dX4_nth_16 hl (by decide) rfl (fun ls hl => ?_)
      by_cases h3 : mIS S 2 o = 0
      · skip
        refine lv_iload hx hb dX4_nth_18 (lv_at hl 0 rfl) ?_
        refine lv_bipush (v := nI 32) hx hb dX4_nth_20 (by decide) ?_
        refine lv_icmp_ge (tgt := 72) hx hb dX4_nth_22 (by decide) (fun q => absurd q (by decide)) (fun _ => ?_)
        refine lv_aload_n hx hb dX4_nth_25 rfl (lv_at hl 3 rfl) ?_
        refine lv_iload_n hx hb dX4_nth_26 rfl (lv_at hl 1 rfl) ?_
        refine ail hx hb hw hT 11 2 (by decide) (f := mIS S 2) rfl o (show o < 8192 by omega) (by decide) dX4_nth_27 ?_
        refine lv_if_eq (tgt := 72) hx hb dX4_nth_28 (by decide) (fun _ => ?_) (fun q => absurd h3 q)
        refine lv_iinc (v := nI (o + 1)) (lv' := [(3, .int (nI (o + 1))), (4, .int (nI 0)), (2, .int kk), (0, .ref (g_ad G 11 2)), (1, .int k0)]) hx hb dX4_nth_72 hl (k := 1) rfl (nI_add o 1) (by decide) rfl (fun ls hl => ?_)
        refine lv_goto (tgt := 4) hx hb dX4_nth_75 (by decide) ?_
        exact ih (o + 1) kk H locs ls (by omega) ((nt_0 h3).symm.trans hq) hk8 hw hS (lv_sub hl [0, 2, 3, 4] rfl)
      · skip
        have LOOP2 : ∀ (n2 j : Nat) (kj : Int32) (H : Heap) (locs : List Loc) (ls : Array Slot), j + n2 = 32 → (ntI (mIS S 2 o) n2 j kj = ntI (mIS S 2 o) 32 0 kk) → (¬ kj < 0) → wdM G S H s → va_S (g_A G) s.heap H locs → lv_has ls 5 [(4, .int (nI j)), (3, .int (nI o)), (2, .int kj), (0, .ref (g_ad G 11 2)), (1, .int k0)] → W p l e ({ frames := 0, cells := 0, slots := 0, locals := 0 } : Room) s m ([.ref (g_ad G 11 2), .int k0] : List Value).toArray below meth c H locs 0 0 (MQ below (Qi G (ntO (mIS S 2) 8192 0 k0) S) ([.ref (g_ad G 11 2), .int k0] : List Value).toArray s ({ frames := 0, cells := 0, slots := 0, locals := 0 } : Room).cells ({ frames := 0, cells := 0, slots := 0, locals := 0 } : Room).slots (g_A G)) (F0 m 18 ls []) := by
          intro n2
          induction n2 with
          | zero =>
            intro j kj H locs ls hn2 h9 hk7 hw hS hl
            obtain rfl : 32 = j := by omega
            refine lv_iload hx hb dX4_nth_18 (lv_at hl 0 rfl) ?_
            refine lv_bipush (v := nI 32) hx hb dX4_nth_20 (by decide) ?_
            refine lv_icmp_ge (tgt := 72) hx hb dX4_nth_22 (by decide) (fun _ => ?_) (fun q => absurd (by decide) q)
            refine lv_iinc (v := nI (o + 1)) (lv' := [(3, .int (nI (o + 1))), (4, .int (nI 32)), (2, .int kj), (0, .ref (g_ad G 11 2)), (1, .int k0)]) hx hb dX4_nth_72 hl (k := 1) rfl (nI_add o 1) (by decide) rfl (fun ls hl => ?_)
            refine lv_goto (tgt := 4) hx hb dX4_nth_75 (by decide) ?_
            exact ih (o + 1) kj H locs ls (by omega) ((nt_n h3 h9.symm).symm.trans hq) hk7 hw hS (lv_sub hl [0, 2, 3, 4] rfl)
          | succ n2 ih =>
            intro j kj H locs ls hn2 h9 hk7 hw hS hl
            have hj : j < 32 := by omega
            refine lv_iload hx hb dX4_nth_18 (lv_at hl 0 rfl) ?_
            refine lv_bipush (v := nI 32) hx hb dX4_nth_20 (by decide) ?_
            refine lv_icmp_ge (tgt := 72) hx hb dX4_nth_22 (by decide) (fun q => absurd q (nI_ge hj (by decide))) (fun _ => ?_)
            refine lv_aload_n hx hb dX4_nth_25 rfl (lv_at hl 3 rfl) ?_
            refine lv_iload_n hx hb dX4_nth_26 rfl (lv_at hl 1 rfl) ?_
            refine ail hx hb hw hT 11 2 (by decide) (f := mIS S 2) rfl o (show o < 8192 by omega) (by decide) dX4_nth_27 ?_
            refine lv_if_eq (tgt := 72) hx hb dX4_nth_28 (by decide) (fun z => absurd z h3) (fun _ => ?_)
            refine lv_iload_n hx hb dX4_nth_31 rfl (lv_at hl 2 rfl) ?_
            refine lv_aload_n hx hb dX4_nth_32 rfl (lv_at hl 3 rfl) ?_
            refine lv_iload_n hx hb dX4_nth_33 rfl (lv_at hl 1 rfl) ?_
            refine ail hx hb hw hT 11 2 (by decide) (f := mIS S 2) rfl o (show o < 8192 by omega) (by decide) dX4_nth_34 ?_
            refine lv_iload hx hb dX4_nth_35 (lv_at hl 0 rfl) ?_
            refine lv_ishr hx hb dX4_nth_37 ?_
            refine lv_iconst (v := nI 1) hx hb dX4_nth_38 (by decide) ?_
            refine lv_iand hx hb dX4_nth_39 ?_
            refine lv_isub hx hb dX4_nth_40 ?_
            refine lv_istore_n (lv' := [(2, .int (kj - (((mIS S 2 o) >>> ((nI j) &&& 31)) &&& (nI 1)))), (4, .int (nI j)), (3, .int (nI o)), (0, .ref (g_ad G 11 2)), (1, .int k0)]) hx hb dX4_nth_41 rfl hl (by decide) rfl (fun ls hl => ?_)
            refine lv_iload_n hx hb dX4_nth_42 rfl (lv_at hl 0 rfl) ?_
            refine lv_if_ge (tgt := 66) hx hb dX4_nth_43 (by decide) (fun h7 => ?_) (fun h7 => ?_)
            · skip
              have h7 : ¬ (kj - (((mIS S 2 o) >>> ((nI j) &&& 31)) &&& (nI 1))) < 0 := Int32.not_lt.mpr h7
              refine lv_iinc (v := nI (j + 1)) (lv' := [(4, .int (nI (j + 1))), (2, .int (kj - (((mIS S 2 o) >>> ((nI j) &&& 31)) &&& (nI 1)))), (3, .int (nI o)), (0, .ref (g_ad G 11 2)), (1, .int k0)]) hx hb dX4_nth_66 hl (k := 1) rfl (nI_add j 1) (by decide) rfl (fun ls hl => ?_)
              refine lv_goto (tgt := 18) hx hb dX4_nth_69 (by decide) ?_
              exact ih (j + 1) (kj - (((mIS S 2 o) >>> ((nI j) &&& 31)) &&& (nI 1))) H locs ls (by omega) (by rw [← h9, ntI, if_neg h7]) h7 hw hS (lv_sub hl [0, 2, 1, 3, 4] rfl)
            · skip
              have h7 : (kj - (((mIS S 2 o) >>> ((nI j) &&& 31)) &&& (nI 1))) < 0 := Int32.not_le.mp h7
              refine lv_iload_n hx hb dX4_nth_46 rfl (lv_at hl 2 rfl) ?_
              refine lv_bipush (v := nI 16) hx hb dX4_nth_47 (by decide) ?_
              refine lv_idiv hx hb dX4_nth_49 (by decide) ?_
              refine top_i (y := nI (o / 16)) (pk_div (by omega) (by decide) (by decide)) ?_
              refine lv_sipush (v := nI 512) hx hb dX4_nth_50 (by decide) ?_
              refine lv_imul hx hb dX4_nth_53 ?_
              refine top_i (y := nI ((o / 16) * 512)) (pk_mul (o / 16) 512) ?_
              refine lv_iload_n hx hb dX4_nth_54 rfl (lv_at hl 2 rfl) ?_
              refine lv_bipush (v := nI 16) hx hb dX4_nth_55 (by decide) ?_
              refine lv_irem hx hb dX4_nth_57 (by decide) ?_
              refine top_i (y := nI (o % 16)) (pk_rem (by omega) (by decide) (by decide)) ?_
              refine lv_bipush (v := nI 32) hx hb dX4_nth_58 (by decide) ?_
              refine lv_imul hx hb dX4_nth_60 ?_
              refine top_i (y := nI ((o % 16) * 32)) (pk_mul (o % 16) 32) ?_
              refine lv_iadd hx hb dX4_nth_61 ?_
              refine top_i (y := nI ((o / 16) * 512 + ((o % 16) * 32))) (nI_add ((o / 16) * 512) ((o % 16) * 32)) ?_
              refine lv_iload hx hb dX4_nth_62 (lv_at hl 1 rfl) ?_
              refine lv_iadd hx hb dX4_nth_64 ?_
              refine top_i (y := nI ((o / 16) * 512 + ((o % 16) * 32) + j)) (nI_add ((o / 16) * 512 + ((o % 16) * 32)) j) ?_
              exact ri hx hb hlk hr hw hS (by rw [← hq]; exact (nt_s h3 (h9.symm.trans (by rw [ntI, if_pos h7]))).symm) (vp_nar_int _) (Nat.le_of_ble_eq_true rfl) (Nat.le_of_ble_eq_true rfl) dX4_nth_65
        exact LOOP2 32 0 kk _ _ ls (by omega) rfl hk8 hw hS (lv_sub hl [0, 1, 2, 3, 4] rfl)
  exact LOOP 8192 0 k0 _ _ ls (by omega) rfl hk0 hw hS (lv_sub hl [0, 1, 2, 3] rfl)
set_option maxRecDepth 100000 in
set_option maxHeartbeats 1000000 in
theorem m_nth4 (l : Launch) (G : Gm) (S : St) (k0 : Int32) (hk0 : ¬ k0 < 0) : Pi l yX4_nth wsX4_nth ({ frames := 0, cells := 0, slots := 0, locals := 0 } : Room) [.ref (g_ad G 11 4), .int k0] G S (ntO (mIS S 4) 8192 0 k0) S := by
  refine ent (cc := cX4_nth) (maxL := 5) (ret := (some .int)) (by decide) rfl (Nat.le_of_ble_eq_true rfl) ?_
  intro p e s m below meth c ls C hw hT hS hl
  obtain ⟨hx, hb, hr, hml, hown, hts, hlk⟩ := C
  have hl : lv_has ls 5 [(0, .ref (g_ad G 11 4)), (1, .int k0)] := hl
  refine lv_iload_n hx hb dX4_nth_0 rfl (lv_at hl 1 rfl) ?_
  refine lv_istore_n (lv' := [(2, .int k0), (0, .ref (g_ad G 11 4)), (1, .int k0)]) hx hb dX4_nth_1 rfl hl (by decide) rfl (fun ls hl => ?_)
  refine lv_iconst (v := nI 0) hx hb dX4_nth_2 (by decide) ?_
  refine lv_istore_n (lv' := [(3, .int (nI 0)), (2, .int k0), (0, .ref (g_ad G 11 4)), (1, .int k0)]) hx hb dX4_nth_3 rfl hl (by decide) rfl (fun ls hl => ?_)
  have LOOP : ∀ (n o : Nat) (kk : Int32) (H : Heap) (locs : List Loc) (ls : Array Slot), o + n = 8192 → (ntO (mIS S 4) n o kk = ntO (mIS S 4) 8192 0 k0) → (¬ kk < 0) → wdM G S H s → va_S (g_A G) s.heap H locs → lv_has ls 5 [(3, .int (nI o)), (2, .int kk), (0, .ref (g_ad G 11 4)), (1, .int k0)] → W p l e ({ frames := 0, cells := 0, slots := 0, locals := 0 } : Room) s m ([.ref (g_ad G 11 4), .int k0] : List Value).toArray below meth c H locs 0 0 (MQ below (Qi G (ntO (mIS S 4) 8192 0 k0) S) ([.ref (g_ad G 11 4), .int k0] : List Value).toArray s ({ frames := 0, cells := 0, slots := 0, locals := 0 } : Room).cells ({ frames := 0, cells := 0, slots := 0, locals := 0 } : Room).slots (g_A G)) (F0 m 4 ls []) := by
    intro n
    induction n with
    | zero =>
      intro o kk H locs ls hn hq hk8 hw hS hl
      obtain rfl : 8192 = o := by omega
      refine lv_iload_n hx hb dX4_nth_4 rfl (lv_at hl 0 rfl) ?_
      refine lv_sipush (v := nI 8192) hx hb dX4_nth_5 (by decide) ?_
      refine lv_icmp_ge (tgt := 78) hx hb dX4_nth_8 (by decide) (fun _ => ?_) (fun q => absurd (by decide) q)
      refine lv_iconst (v := (-1)) hx hb dX4_nth_78 (by decide) ?_
      exact ri hx hb hlk hr hw hS (by rw [← hq]; rfl) (vp_nar_int _) (Nat.le_of_ble_eq_true rfl) (Nat.le_of_ble_eq_true rfl) dX4_nth_79
    | succ n ih =>
      intro o kk H locs ls hn hq hk8 hw hS hl
      have ho : o < 8192 := by omega
      refine lv_iload_n hx hb dX4_nth_4 rfl (lv_at hl 0 rfl) ?_
      refine lv_sipush (v := nI 8192) hx hb dX4_nth_5 (by decide) ?_
      refine lv_icmp_ge (tgt := 78) hx hb dX4_nth_8 (by decide) (fun q => absurd q (nI_ge ho (by decide))) (fun _ => ?_)
      refine lv_iload_n hx hb dX4_nth_11 rfl (lv_at hl 1 rfl) ?_
      refine lv_if_lt (tgt := 78) hx hb dX4_nth_12 (by decide) (fun q => absurd q hk8) (fun _ => ?_)
      refine lv_iconst (v := nI 0) hx hb dX4_nth_15 (by decide) ?_
      refine lv_istore (lv' := [(4, .int (nI 0)), (3, .int (nI o)), (2, .int kk), (0, .ref (g_ad G 11 4)), (1, .int k0)]) hx hb dX4_nth_16 hl (by decide) rfl (fun ls hl => ?_)
      by_cases h3 : mIS S 4 o = 0
      · skip
        refine lv_iload hx hb dX4_nth_18 (lv_at hl 0 rfl) ?_
        refine lv_bipush (v := nI 32) hx hb dX4_nth_20 (by decide) ?_
        refine lv_icmp_ge (tgt := 72) hx hb dX4_nth_22 (by decide) (fun q => absurd q (by decide)) (fun _ => ?_)
        refine lv_aload_n hx hb dX4_nth_25 rfl (lv_at hl 3 rfl) ?_
        refine lv_iload_n hx hb dX4_nth_26 rfl (lv_at hl 1 rfl) ?_
        refine ail hx hb hw hT 11 4 (by decide) (f := mIS S 4) rfl o (show o < 8192 by omega) (by decide) dX4_nth_27 ?_
        refine lv_if_eq (tgt := 72) hx hb dX4_nth_28 (by decide) (fun _ => ?_) (fun q => absurd h3 q)
        refine lv_iinc (v := nI (o + 1)) (lv' := [(3, .int (nI (o + 1))), (4, .int (nI 0)), (2, .int kk), (0, .ref (g_ad G 11 4)), (1, .int k0)]) hx hb dX4_nth_72 hl (k := 1) rfl (nI_add o 1) (by decide) rfl (fun ls hl => ?_)
        refine lv_goto (tgt := 4) hx hb dX4_nth_75 (by decide) ?_
        exact ih (o + 1) kk H locs ls (by omega) ((nt_0 h3).symm.trans hq) hk8 hw hS (lv_sub hl [0, 2, 3, 4] rfl)
      · skip
        have LOOP2 : ∀ (n2 j : Nat) (kj : Int32) (H : Heap) (locs : List Loc) (ls : Array Slot), j + n2 = 32 → (ntI (mIS S 4 o) n2 j kj = ntI (mIS S 4 o) 32 0 kk) → (¬ kj < 0) → wdM G S H s → va_S (g_A G) s.heap H locs → lv_has ls 5 [(4, .int (nI j)), (3, .int (nI o)), (2, .int kj), (0, .ref (g_ad G 11 4)), (1, .int k0)] → W p l e ({ frames := 0, cells := 0, slots := 0, locals := 0 } : Room) s m ([.ref (g_ad G 11 4), .int k0] : List Value).toArray below meth c H locs 0 0 (MQ below (Qi G (ntO (mIS S 4) 8192 0 k0) S) ([.ref (g_ad G 11 4), .int k0] : List Value).toArray s ({ frames := 0, cells := 0, slots := 0, locals := 0 } : Room).cells ({ frames := 0, cells := 0, slots := 0, locals := 0 } : Room).slots (g_A G)) (F0 m 18 ls []) := by
          intro n2
          induction n2 with
          | zero =>
            intro j kj H locs ls hn2 h9 hk7 hw hS hl
            obtain rfl : 32 = j := by omega
            refine lv_iload hx hb dX4_nth_18 (lv_at hl 0 rfl) ?_
            refine lv_bipush (v := nI 32) hx hb dX4_nth_20 (by decide) ?_
            refine lv_icmp_ge (tgt := 72) hx hb dX4_nth_22 (by decide) (fun _ => ?_) (fun q => absurd (by decide) q)
            refine lv_iinc (v := nI (o + 1)) (lv' := [(3, .int (nI (o + 1))), (4, .int (nI 32)), (2, .int kj), (0, .ref (g_ad G 11 4)), (1, .int k0)]) hx hb dX4_nth_72 hl (k := 1) rfl (nI_add o 1) (by decide) rfl (fun ls hl => ?_)
            refine lv_goto (tgt := 4) hx hb dX4_nth_75 (by decide) ?_
            exact ih (o + 1) kj H locs ls (by omega) ((nt_n h3 h9.symm).symm.trans hq) hk7 hw hS (lv_sub hl [0, 2, 3, 4] rfl)
          | succ n2 ih =>
            intro j kj H locs ls hn2 h9 hk7 hw hS hl
            have hj : j < 32 := by omega
            refine lv_iload hx hb dX4_nth_18 (lv_at hl 0 rfl) ?_
            refine lv_bipush (v := nI 32) hx hb dX4_nth_20 (by decide) ?_
            refine lv_icmp_ge (tgt := 72) hx hb dX4_nth_22 (by decide) (fun q => absurd q (nI_ge hj (by decide))) (fun _ => ?_)
            refine lv_aload_n hx hb dX4_nth_25 rfl (lv_at hl 3 rfl) ?_
            refine lv_iload_n hx hb dX4_nth_26 rfl (lv_at hl 1 rfl) ?_
            refine ail hx hb hw hT 11 4 (by decide) (f := mIS S 4) rfl o (show o < 8192 by omega) (by decide) dX4_nth_27 ?_
            refine lv_if_eq (tgt := 72) hx hb dX4_nth_28 (by decide) (fun z => absurd z h3) (fun _ => ?_)
            refine lv_iload_n hx hb dX4_nth_31 rfl (lv_at hl 2 rfl) ?_
            refine lv_aload_n hx hb dX4_nth_32 rfl (lv_at hl 3 rfl) ?_
            refine lv_iload_n hx hb dX4_nth_33 rfl (lv_at hl 1 rfl) ?_
            refine ail hx hb hw hT 11 4 (by decide) (f := mIS S 4) rfl o (show o < 8192 by omega) (by decide) dX4_nth_34 ?_
            refine lv_iload hx hb dX4_nth_35 (lv_at hl 0 rfl) ?_
            refine lv_ishr hx hb dX4_nth_37 ?_
            refine lv_iconst (v := nI 1) hx hb dX4_nth_38 (by decide) ?_
            refine lv_iand hx hb dX4_nth_39 ?_
            refine lv_isub hx hb dX4_nth_40 ?_
            refine lv_istore_n (lv' := [(2, .int (kj - (((mIS S 4 o) >>> ((nI j) &&& 31)) &&& (nI 1)))), (4, .int (nI j)), (3, .int (nI o)), (0, .ref (g_ad G 11 4)), (1, .int k0)]) hx hb dX4_nth_41 rfl hl (by decide) rfl (fun ls hl => ?_)
            refine lv_iload_n hx hb dX4_nth_42 rfl (lv_at hl 0 rfl) ?_
            refine lv_if_ge (tgt := 66) hx hb dX4_nth_43 (by decide) (fun h7 => ?_) (fun h7 => ?_)
            · skip
              have h7 : ¬ (kj - (((mIS S 4 o) >>> ((nI j) &&& 31)) &&& (nI 1))) < 0 := Int32.not_lt.mpr h7
              refine lv_iinc (v := nI (j + 1)) (lv' := [(4, .int (nI (j + 1))), (2, .int (kj - (((mIS S 4 o) >>> ((nI j) &&& 31)) &&& (nI 1)))), (3, .int (nI o)), (0, .ref (g_ad G 11 4)), (1, .int k0)]) hx hb dX4_nth_66 hl (k := 1) rfl (nI_add j 1) (by decide) rfl (fun ls hl => ?_)
              refine lv_goto (tgt := 18) hx hb dX4_nth_69 (by decide) ?_
              exact ih (j + 1) (kj - (((mIS S 4 o) >>> ((nI j) &&& 31)) &&& (nI 1))) H locs ls (by omega) (by rw [← h9, ntI, if_neg h7]) h7 hw hS (lv_sub hl [0, 2, 1, 3, 4] rfl)
            · skip
              have h7 : (kj - (((mIS S 4 o) >>> ((nI j) &&& 31)) &&& (nI 1))) < 0 := Int32.not_le.mp h7
              refine lv_iload_n hx hb dX4_nth_46 rfl (lv_at hl 2 rfl) ?_
              refine lv_bipush (v := nI 16) hx hb dX4_nth_47 (by decide) ?_
              refine lv_idiv hx hb dX4_nth_49 (by decide) ?_
              refine top_i (y := nI (o / 16)) (pk_div (by omega) (by decide) (by decide)) ?_
              refine lv_sipush (v := nI 512) hx hb dX4_nth_50 (by decide) ?_
              refine lv_imul hx hb dX4_nth_53 ?_
              refine top_i (y := nI ((o / 16) * 512)) (pk_mul (o / 16) 512) ?_
              refine lv_iload_n hx hb dX4_nth_54 rfl (lv_at hl 2 rfl) ?_
              refine lv_bipush (v := nI 16) hx hb dX4_nth_55 (by decide) ?_
              refine lv_irem hx hb dX4_nth_57 (by decide) ?_
              refine top_i (y := nI (o % 16)) (pk_rem (by omega) (by decide) (by decide)) ?_
              refine lv_bipush (v := nI 32) hx hb dX4_nth_58 (by decide) ?_
              refine lv_imul hx hb dX4_nth_60 ?_
              refine top_i (y := nI ((o % 16) * 32)) (pk_mul (o % 16) 32) ?_
              refine lv_iadd hx hb dX4_nth_61 ?_
              refine top_i (y := nI ((o / 16) * 512 + ((o % 16) * 32))) (nI_add ((o / 16) * 512) ((o % 16) * 32)) ?_
              refine lv_iload hx hb dX4_nth_62 (lv_at hl 1 rfl) ?_
              refine lv_iadd hx hb dX4_nth_64 ?_
              refine top_i (y := nI ((o / 16) * 512 + ((o % 16) * 32) + j)) (nI_add ((o / 16) * 512 + ((o % 16) * 32)) j) ?_
              exact ri hx hb hlk hr hw hS (by rw [← hq]; exact (nt_s h3 (h9.symm.trans (by rw [ntI, if_pos h7]))).symm) (vp_nar_int _) (Nat.le_of_ble_eq_true rfl) (Nat.le_of_ble_eq_true rfl) dX4_nth_65
        exact LOOP2 32 0 kk _ _ ls (by omega) rfl hk8 hw hS (lv_sub hl [0, 1, 2, 3, 4] rfl)
  exact LOOP 8192 0 k0 _ _ ls (by omega) rfl hk0 hw hS (lv_sub hl [0, 1, 2, 3] rfl)
set_option maxRecDepth 100000 in
set_option maxHeartbeats 1000000 in
theorem m_nth5 (l : Launch) (G : Gm) (S : St) (k0 : Int32) (hk0 : ¬ k0 < 0) : Pi l yX4_nth wsX4_nth ({ frames := 0, cells := 0, slots := 0, locals := 0 } : Room) [.ref (g_ad G 11 5), .int k0] G S (ntO (mIS S 5) 8192 0 k0) S := by
  refine ent (cc := cX4_nth) (maxL := 5) (ret := (some .int)) (by decide) rfl (Nat.le_of_ble_eq_true rfl) ?_
  intro p e s m below meth c ls C hw hT hS hl
  obtain ⟨hx, hb, hr, hml, hown, hts, hlk⟩ := C
  have hl : lv_has ls 5 [(0, .ref (g_ad G 11 5)), (1, .int k0)] := hl
  refine lv_iload_n hx hb dX4_nth_0 rfl (lv_at hl 1 rfl) ?_
  refine lv_istore_n (lv' := [(2, .int k0), (0, .ref (g_ad G 11 5)), (1, .int k0)]) hx hb dX4_nth_1 rfl hl (by decide) rfl (fun ls hl => ?_)
  refine lv_iconst (v := nI 0) hx hb dX4_nth_2 (by decide) ?_
  refine lv_istore_n (lv' := [(3, .int (nI 0)), (2, .int k0), (0, .ref (g_ad G 11 5)), (1, .int k0)]) hx hb dX4_nth_3 rfl hl (by decide) rfl (fun ls hl => ?_)
  have LOOP : ∀ (n o : Nat) (kk : Int32) (H : Heap) (locs : List Loc) (ls : Array Slot), o + n = 8192 → (ntO (mIS S 5) n o kk = ntO (mIS S 5) 8192 0 k0) → (¬ kk < 0) → wdM G S H s → va_S (g_A G) s.heap H locs → lv_has ls 5 [(3, .int (nI o)), (2, .int kk), (0, .ref (g_ad G 11 5)), (1, .int k0)] → W p l e ({ frames := 0, cells := 0, slots := 0, locals := 0 } : Room) s m ([.ref (g_ad G 11 5), .int k0] : List Value).toArray below meth c H locs 0 0 (MQ below (Qi G (ntO (mIS S 5) 8192 0 k0) S) ([.ref (g_ad G 11 5), .int k0] : List Value).toArray s ({ frames := 0, cells := 0, slots := 0, locals := 0 } : Room).cells ({ frames := 0, cells := 0, slots := 0, locals := 0 } : Room).slots (g_A G)) (F0 m 4 ls []) := by
    intro n
    induction n with
    | zero =>
      intro o kk H locs ls hn hq hk8 hw hS hl
      obtain rfl : 8192 = o := by omega
      refine lv_iload_n hx hb dX4_nth_4 rfl (lv_at hl 0 rfl) ?_
      refine lv_sipush (v := nI 8192) hx hb dX4_nth_5 (by decide) ?_
      refine lv_icmp_ge (tgt := 78) hx hb dX4_nth_8 (by decide) (fun _ => ?_) (fun q => absurd (by decide) q)
      refine lv_iconst (v := (-1)) hx hb dX4_nth_78 (by decide) ?_
      exact ri hx hb hlk hr hw hS (by rw [← hq]; rfl) (vp_nar_int _) (Nat.le_of_ble_eq_true rfl) (Nat.le_of_ble_eq_true rfl) dX4_nth_79
    | succ n ih =>
      intro o kk H locs ls hn hq hk8 hw hS hl
      have ho : o < 8192 := by omega
      refine lv_iload_n hx hb dX4_nth_4 rfl (lv_at hl 0 rfl) ?_
      refine lv_sipush (v := nI 8192) hx hb dX4_nth_5 (by decide) ?_
      refine lv_icmp_ge (tgt := 78) hx hb dX4_nth_8 (by decide) (fun q => absurd q (nI_ge ho (by decide))) (fun _ => ?_)
      refine lv_iload_n hx hb dX4_nth_11 rfl (lv_at hl 1 rfl) ?_
      refine lv_if_lt (tgt := 78) hx hb dX4_nth_12 (by decide) (fun q => absurd q hk8) (fun _ => ?_)
      refine lv_iconst (v := nI 0) hx hb dX4_nth_15 (by decide) ?_
      refine lv_istore (lv' := [(4, .int (nI 0)), (3, .int (nI o)), (2, .int kk), (0, .ref (g_ad G 11 5)), (1, .int k0)]) hx hb dX4_nth_16 hl (by decide) rfl (fun ls hl => ?_)
      by_cases h3 : mIS S 5 o = 0
      · skip
        refine lv_iload hx hb dX4_nth_18 (lv_at hl 0 rfl) ?_
        refine lv_bipush (v := nI 32) hx hb dX4_nth_20 (by decide) ?_
        refine lv_icmp_ge (tgt := 72) hx hb dX4_nth_22 (by decide) (fun q => absurd q (by decide)) (fun _ => ?_)
        refine lv_aload_n hx hb dX4_nth_25 rfl (lv_at hl 3 rfl) ?_
        refine lv_iload_n hx hb dX4_nth_26 rfl (lv_at hl 1 rfl) ?_
        refine ail hx hb hw hT 11 5 (by decide) (f := mIS S 5) rfl o (show o < 8192 by omega) (by decide) dX4_nth_27 ?_
        refine lv_if_eq (tgt := 72) hx hb dX4_nth_28 (by decide) (fun _ => ?_) (fun q => absurd h3 q)
        refine lv_iinc (v := nI (o + 1)) (lv' := [(3, .int (nI (o + 1))), (4, .int (nI 0)), (2, .int kk), (0, .ref (g_ad G 11 5)), (1, .int k0)]) hx hb dX4_nth_72 hl (k := 1) rfl (nI_add o 1) (by decide) rfl (fun ls hl => ?_)
        refine lv_goto (tgt := 4) hx hb dX4_nth_75 (by decide) ?_
        exact ih (o + 1) kk H locs ls (by omega) ((nt_0 h3).symm.trans hq) hk8 hw hS (lv_sub hl [0, 2, 3, 4] rfl)
      · skip
        have LOOP2 : ∀ (n2 j : Nat) (kj : Int32) (H : Heap) (locs : List Loc) (ls : Array Slot), j + n2 = 32 → (ntI (mIS S 5 o) n2 j kj = ntI (mIS S 5 o) 32 0 kk) → (¬ kj < 0) → wdM G S H s → va_S (g_A G) s.heap H locs → lv_has ls 5 [(4, .int (nI j)), (3, .int (nI o)), (2, .int kj), (0, .ref (g_ad G 11 5)), (1, .int k0)] → W p l e ({ frames := 0, cells := 0, slots := 0, locals := 0 } : Room) s m ([.ref (g_ad G 11 5), .int k0] : List Value).toArray below meth c H locs 0 0 (MQ below (Qi G (ntO (mIS S 5) 8192 0 k0) S) ([.ref (g_ad G 11 5), .int k0] : List Value).toArray s ({ frames := 0, cells := 0, slots := 0, locals := 0 } : Room).cells ({ frames := 0, cells := 0, slots := 0, locals := 0 } : Room).slots (g_A G)) (F0 m 18 ls []) := by
          intro n2
          induction n2 with
          | zero =>
            intro j kj H locs ls hn2 h9 hk7 hw hS hl
            obtain rfl : 32 = j := by omega
            refine lv_iload hx hb dX4_nth_18 (lv_at hl 0 rfl) ?_
            refine lv_bipush (v := nI 32) hx hb dX4_nth_20 (by decide) ?_
            refine lv_icmp_ge (tgt := 72) hx hb dX4_nth_22 (by decide) (fun _ => ?_) (fun q => absurd (by decide) q)
            refine lv_iinc (v := nI (o + 1)) (lv' := [(3, .int (nI (o + 1))), (4, .int (nI 32)), (2, .int kj), (0, .ref (g_ad G 11 5)), (1, .int k0)]) hx hb dX4_nth_72 hl (k := 1) rfl (nI_add o 1) (by decide) rfl (fun ls hl => ?_)
            refine lv_goto (tgt := 4) hx hb dX4_nth_75 (by decide) ?_
            exact ih (o + 1) kj H locs ls (by omega) ((nt_n h3 h9.symm).symm.trans hq) hk7 hw hS (lv_sub hl [0, 2, 3, 4] rfl)
          | succ n2 ih =>
            intro j kj H locs ls hn2 h9 hk7 hw hS hl
            have hj : j < 32 := by omega
            refine lv_iload hx hb dX4_nth_18 (lv_at hl 0 rfl) ?_
            refine lv_bipush (v := nI 32) hx hb dX4_nth_20 (by decide) ?_
            refine lv_icmp_ge (tgt := 72) hx hb dX4_nth_22 (by decide) (fun q => absurd q (nI_ge hj (by decide))) (fun _ => ?_)
            refine lv_aload_n hx hb dX4_nth_25 rfl (lv_at hl 3 rfl) ?_
            refine lv_iload_n hx hb dX4_nth_26 rfl (lv_at hl 1 rfl) ?_
            refine ail hx hb hw hT 11 5 (by decide) (f := mIS S 5) rfl o (show o < 8192 by omega) (by decide) dX4_nth_27 ?_
            refine lv_if_eq (tgt := 72) hx hb dX4_nth_28 (by decide) (fun z => absurd z h3) (fun _ => ?_)
            refine lv_iload_n hx hb dX4_nth_31 rfl (lv_at hl 2 rfl) ?_
            refine lv_aload_n hx hb dX4_nth_32 rfl (lv_at hl 3 rfl) ?_
            refine lv_iload_n hx hb dX4_nth_33 rfl (lv_at hl 1 rfl) ?_
            refine ail hx hb hw hT 11 5 (by decide) (f := mIS S 5) rfl o (show o < 8192 by omega) (by decide) dX4_nth_34 ?_
            refine lv_iload hx hb dX4_nth_35 (lv_at hl 0 rfl) ?_
            refine lv_ishr hx hb dX4_nth_37 ?_
            refine lv_iconst (v := nI 1) hx hb dX4_nth_38 (by decide) ?_
            refine lv_iand hx hb dX4_nth_39 ?_
            refine lv_isub hx hb dX4_nth_40 ?_
            refine lv_istore_n (lv' := [(2, .int (kj - (((mIS S 5 o) >>> ((nI j) &&& 31)) &&& (nI 1)))), (4, .int (nI j)), (3, .int (nI o)), (0, .ref (g_ad G 11 5)), (1, .int k0)]) hx hb dX4_nth_41 rfl hl (by decide) rfl (fun ls hl => ?_)
            refine lv_iload_n hx hb dX4_nth_42 rfl (lv_at hl 0 rfl) ?_
            refine lv_if_ge (tgt := 66) hx hb dX4_nth_43 (by decide) (fun h7 => ?_) (fun h7 => ?_)
            · skip
              have h7 : ¬ (kj - (((mIS S 5 o) >>> ((nI j) &&& 31)) &&& (nI 1))) < 0 := Int32.not_lt.mpr h7
              refine lv_iinc (v := nI (j + 1)) (lv' := [(4, .int (nI (j + 1))), (2, .int (kj - (((mIS S 5 o) >>> ((nI j) &&& 31)) &&& (nI 1)))), (3, .int (nI o)), (0, .ref (g_ad G 11 5)), (1, .int k0)]) hx hb dX4_nth_66 hl (k := 1) rfl (nI_add j 1) (by decide) rfl (fun ls hl => ?_)
              refine lv_goto (tgt := 18) hx hb dX4_nth_69 (by decide) ?_
              exact ih (j + 1) (kj - (((mIS S 5 o) >>> ((nI j) &&& 31)) &&& (nI 1))) H locs ls (by omega) (by rw [← h9, ntI, if_neg h7]) h7 hw hS (lv_sub hl [0, 2, 1, 3, 4] rfl)
            · skip
              have h7 : (kj - (((mIS S 5 o) >>> ((nI j) &&& 31)) &&& (nI 1))) < 0 := Int32.not_le.mp h7
              refine lv_iload_n hx hb dX4_nth_46 rfl (lv_at hl 2 rfl) ?_
              refine lv_bipush (v := nI 16) hx hb dX4_nth_47 (by decide) ?_
              refine lv_idiv hx hb dX4_nth_49 (by decide) ?_
              refine top_i (y := nI (o / 16)) (pk_div (by omega) (by decide) (by decide)) ?_
              refine lv_sipush (v := nI 512) hx hb dX4_nth_50 (by decide) ?_
              refine lv_imul hx hb dX4_nth_53 ?_
              refine top_i (y := nI ((o / 16) * 512)) (pk_mul (o / 16) 512) ?_
              refine lv_iload_n hx hb dX4_nth_54 rfl (lv_at hl 2 rfl) ?_
              refine lv_bipush (v := nI 16) hx hb dX4_nth_55 (by decide) ?_
              refine lv_irem hx hb dX4_nth_57 (by decide) ?_
              refine top_i (y := nI (o % 16)) (pk_rem (by omega) (by decide) (by decide)) ?_
              refine lv_bipush (v := nI 32) hx hb dX4_nth_58 (by decide) ?_
              refine lv_imul hx hb dX4_nth_60 ?_
              refine top_i (y := nI ((o % 16) * 32)) (pk_mul (o % 16) 32) ?_
              refine lv_iadd hx hb dX4_nth_61 ?_
              refine top_i (y := nI ((o / 16) * 512 + ((o % 16) * 32))) (nI_add ((o / 16) * 512) ((o % 16) * 32)) ?_
              refine lv_iload hx hb dX4_nth_62 (lv_at hl 1 rfl) ?_
              refine lv_iadd hx hb dX4_nth_64 ?_
              refine top_i (y := nI ((o / 16) * 512 + ((o % 16) * 32) + j)) (nI_add ((o / 16) * 512 + ((o % 16) * 32)) j) ?_
              exact ri hx hb hlk hr hw hS (by rw [← hq]; exact (nt_s h3 (h9.symm.trans (by rw [ntI, if_pos h7]))).symm) (vp_nar_int _) (Nat.le_of_ble_eq_true rfl) (Nat.le_of_ble_eq_true rfl) dX4_nth_65
        exact LOOP2 32 0 kk _ _ ls (by omega) rfl hk8 hw hS (lv_sub hl [0, 1, 2, 3, 4] rfl)
  exact LOOP 8192 0 k0 _ _ ls (by omega) rfl hk0 hw hS (lv_sub hl [0, 1, 2, 3] rfl)
set_option maxRecDepth 100000 in
set_option maxHeartbeats 1000000 in
theorem m_pair (l : Launch) (G : Gm) (S : St) (wh k : Int32) : Pi l yX4_pair wsX4_pair ({ frames := 1, cells := 0, slots := 0, locals := 24 } : Room) [.ref (g_ad G 9 0), .int wh, .int k] G S (prMI S wh k) (prMS S wh k) := by
  refine ent (cc := cX4_pair) (maxL := 4) (ret := (some .int)) (by decide) rfl (Nat.le_of_ble_eq_true rfl) ?_
  intro p e s m below meth c ls C hw hT hS hl
  obtain ⟨hx, hb, hr, hml, hown, hts, hlk⟩ := C
  have hl : lv_has ls 4 [(0, .ref (g_ad G 9 0)), (1, .int wh), (2, .int k)] := hl
  have K1 : ∀ (b9 : Int32) (H : Heap) (locs : List Loc), b9 = (prM S wh k) → wdM G S H s → va_S (g_A G) s.heap H locs → W p l e ({ frames := 1, cells := 0, slots := 0, locals := 24 } : Room) s m ([.ref (g_ad G 9 0), .int wh, .int k] : List Value).toArray below meth c H locs 0 0 (MQ below (Qi G (prMI S wh k) (prMS S wh k)) ([.ref (g_ad G 9 0), .int wh, .int k] : List Value).toArray s ({ frames := 1, cells := 0, slots := 0, locals := 24 } : Room).cells ({ frames := 1, cells := 0, slots := 0, locals := 24 } : Room).slots (g_A G)) (F0 m 56 ls [.int b9]) := by
    intro b9 H locs hb9 hw hS
    subst hb9
    obtain ⟨r9, hr9⟩ : ∃ z, z = prM S wh k := ⟨_, rfl⟩
    refine top_i (y := r9) hr9.symm ?_
    refine lv_istore_n (lv' := [(3, .int r9), (0, .ref (g_ad G 9 0)), (1, .int wh), (2, .int k)]) hx hb dX4_pair_56 rfl hl (by decide) rfl (fun ls hl => ?_)
    refine lv_aload_n hx hb dX4_pair_57 rfl (lv_at hl 1 rfl) ?_
    have K2 : ∀ (b9 : Bool) (H : Heap) (locs : List Loc), b9 = (!(decide (r9 < 0))) → wdM G S H s → va_S (g_A G) s.heap H locs → W p l e ({ frames := 1, cells := 0, slots := 0, locals := 24 } : Room) s m ([.ref (g_ad G 9 0), .int wh, .int k] : List Value).toArray below meth c H locs 0 0 (MQ below (Qi G (prMI S wh k) (prMS S wh k)) ([.ref (g_ad G 9 0), .int wh, .int k] : List Value).toArray s ({ frames := 1, cells := 0, slots := 0, locals := 24 } : Room).cells ({ frames := 1, cells := 0, slots := 0, locals := 24 } : Room).slots (g_A G)) (F0 m 67 ls [.int (bI b9), .ref (g_ad G 9 0)]) := by
      intro b9 H locs hb9 hw hS
      subst hb9
      refine lv_iconst (v := nI 1) hx hb dX4_pair_67 (by decide) ?_
      refine top_i (y := bI true) (by decide) ?_
      refine cVi ⟨hx, hb, hml, hown, hts⟩ (m_goes l G S (!(decide (r9 < 0))) true) (cwV 2 hts gX4_pair_X4_goes rfl rfl rfl (by decide +kernel) ⟨(Nat.le_of_ble_eq_true rfl), (Nat.le_of_ble_eq_true rfl)⟩) hw hT hS (rcv hw hT 9 0 (by decide) rfl rfl) (As := [.int (bI (!(decide (r9 < 0)))), .int (bI true)]) (rest := []) rfl hl.1 rfl (Nat.le_of_ble_eq_true rfl) dX4_pair_68 ⟨(Nat.le_of_ble_eq_true rfl), (Nat.le_of_ble_eq_true rfl)⟩ (fun H locs hw hS => ?_)
      refine lv_if_eq (tgt := 78) hx hb dX4_pair_71 (by decide) (fun h3 => ?_) (fun h3 => ?_)
      · skip
        have h3 := bI_0.mp h3
        refine lv_iconst (v := nI 0) hx hb dX4_pair_78 (by decide) ?_
        exact ri hx hb hlk hr (by unfold prMS; rw [← hr9]; exact hw) hS (by unfold prMI; rw [← hr9, if_neg (by rw [h3]; decide)]) (vp_nar_int _) (Nat.le_of_ble_eq_true rfl) (Nat.le_of_ble_eq_true rfl) dX4_pair_79
      · skip
        have h3 := bI_n0.mp h3
        refine lv_iload_n hx hb dX4_pair_74 rfl (lv_at hl 0 rfl) ?_
        refine lv_goto (tgt := 79) hx hb dX4_pair_75 (by decide) ?_
        exact ri hx hb hlk hr (by unfold prMS; rw [← hr9]; exact hw) hS (by unfold prMI; rw [← hr9, if_pos h3]) (vp_nar_int _) (Nat.le_of_ble_eq_true rfl) (Nat.le_of_ble_eq_true rfl) dX4_pair_79
    refine lv_iload_n hx hb dX4_pair_58 rfl (lv_at hl 0 rfl) ?_
    refine lv_if_lt (tgt := 66) hx hb dX4_pair_59 (by decide) (fun h4 => ?_) (fun h4 => ?_)
    · skip
      refine lv_iconst (v := nI 0) hx hb dX4_pair_66 (by decide) ?_
      refine top_i (y := bI false) (by decide) ?_
      exact K2 false _ _ (by first | (simp only [h4, Bool.true_and, Bool.false_and, Bool.and_true, Bool.and_false]; done) | simp [h4]) hw hS
    · skip
      refine lv_iconst (v := nI 1) hx hb dX4_pair_62 (by decide) ?_
      refine lv_goto (tgt := 67) hx hb dX4_pair_63 (by decide) ?_
      refine top_i (y := bI true) (by decide) ?_
      exact K2 true _ _ (by first | (simp only [h4, Bool.true_and, Bool.false_and, Bool.and_true, Bool.and_false]; done) | simp [h4]) hw hS
  refine lv_iload_n hx hb dX4_pair_0 rfl (lv_at hl 2 rfl) ?_
  refine lv_if_ge (tgt := 8) hx hb dX4_pair_1 (by decide) (fun h5 => ?_) (fun h5 => ?_)
  · skip
    have h5 : ¬ k < 0 := Int32.not_lt.mpr h5
    refine lv_iload_n hx hb dX4_pair_8 rfl (lv_at hl 1 rfl) ?_
    refine lv_if_ne (tgt := 23) hx hb dX4_pair_9 (by decide) (fun h6 => ?_) (fun h6 => ?_)
    · skip
      refine lv_iload_n hx hb dX4_pair_23 rfl (lv_at hl 1 rfl) ?_
      refine lv_iconst (v := nI 1) hx hb dX4_pair_24 (by decide) ?_
      refine lv_icmp_ne (tgt := 39) hx hb dX4_pair_25 (by decide) (fun h7 => ?_) (fun h7 => ?_)
      · skip
        refine lv_iload_n hx hb dX4_pair_39 rfl (lv_at hl 1 rfl) ?_
        refine lv_iconst (v := nI 2) hx hb dX4_pair_40 (by decide) ?_
        refine lv_icmp_ne (tgt := 55) hx hb dX4_pair_41 (by decide) (fun h8 => ?_) (fun h8 => ?_)
        · skip
          refine lv_iconst (v := (-1)) hx hb dX4_pair_55 (by decide) ?_
          exact K1 ((-1)) _ _ (by unfold prM; rw [if_neg h5, if_neg h6, if_neg h7, if_neg h8]) hw hS
        · skip
          refine lv_aload_n hx hb dX4_pair_44 rfl (lv_at hl 0 rfl) ?_
          refine gf hx hb hown hts hw hT 9 0 (by decide) (ci := 4) rfl rfl (fun _ h => List.mem_cons_of_mem _ (List.mem_append_right _ h)) 11 (by decide) (List.mem_of_getElem? (i := 3) rfl) (v := .ref (g_ad G 11 5)) rfl dX4_pair_45 ?_
          refine lv_iload_n hx hb dX4_pair_48 rfl (lv_at hl 2 rfl) ?_
          refine cSi ⟨hx, hb, hml, hown, hts⟩ (m_nth5 l G S k h5) (va_cwS 2 hts gX4_pair_X4_nth rfl rfl rfl (by decide +kernel) ⟨(Nat.le_of_ble_eq_true rfl), (Nat.le_of_ble_eq_true rfl)⟩) hw hT hS (As := [.ref (g_ad G 11 5), .int k]) (rest := []) rfl hl.1 rfl (Nat.le_of_ble_eq_true rfl) dX4_pair_49 ⟨(Nat.le_of_ble_eq_true rfl), (Nat.le_of_ble_eq_true rfl)⟩ (fun H locs hw hS => ?_)
          refine lv_goto (tgt := 56) hx hb dX4_pair_52 (by decide) ?_
          exact K1 (ntO (mIS S 5) 8192 0 k) _ _ (by unfold prM; rw [if_neg h5, if_neg h6, if_neg h7, if_pos h8]) hw hS
      · skip
        refine lv_aload_n hx hb dX4_pair_28 rfl (lv_at hl 0 rfl) ?_
        refine gf hx hb hown hts hw hT 9 0 (by decide) (ci := 4) rfl rfl (fun _ h => List.mem_cons_of_mem _ (List.mem_append_right _ h)) 10 (by decide) (List.mem_of_getElem? (i := 2) rfl) (v := .ref (g_ad G 11 4)) rfl dX4_pair_29 ?_
        refine lv_iload_n hx hb dX4_pair_32 rfl (lv_at hl 2 rfl) ?_
        refine cSi ⟨hx, hb, hml, hown, hts⟩ (m_nth4 l G S k h5) (va_cwS 2 hts gX4_pair_X4_nth rfl rfl rfl (by decide +kernel) ⟨(Nat.le_of_ble_eq_true rfl), (Nat.le_of_ble_eq_true rfl)⟩) hw hT hS (As := [.ref (g_ad G 11 4), .int k]) (rest := []) rfl hl.1 rfl (Nat.le_of_ble_eq_true rfl) dX4_pair_33 ⟨(Nat.le_of_ble_eq_true rfl), (Nat.le_of_ble_eq_true rfl)⟩ (fun H locs hw hS => ?_)
        refine lv_goto (tgt := 56) hx hb dX4_pair_36 (by decide) ?_
        exact K1 (ntO (mIS S 4) 8192 0 k) _ _ (by unfold prM; rw [if_neg h5, if_neg h6, if_pos h7]) hw hS
    · skip
      refine lv_aload_n hx hb dX4_pair_12 rfl (lv_at hl 0 rfl) ?_
      refine gf hx hb hown hts hw hT 9 0 (by decide) (ci := 4) rfl rfl (fun _ h => List.mem_cons_of_mem _ (List.mem_append_right _ h)) 8 (by decide) (List.mem_of_getElem? (i := 1) rfl) (v := .ref (g_ad G 11 2)) rfl dX4_pair_13 ?_
      refine lv_iload_n hx hb dX4_pair_16 rfl (lv_at hl 2 rfl) ?_
      refine cSi ⟨hx, hb, hml, hown, hts⟩ (m_nth2 l G S k h5) (va_cwS 2 hts gX4_pair_X4_nth rfl rfl rfl (by decide +kernel) ⟨(Nat.le_of_ble_eq_true rfl), (Nat.le_of_ble_eq_true rfl)⟩) hw hT hS (As := [.ref (g_ad G 11 2), .int k]) (rest := []) rfl hl.1 rfl (Nat.le_of_ble_eq_true rfl) dX4_pair_17 ⟨(Nat.le_of_ble_eq_true rfl), (Nat.le_of_ble_eq_true rfl)⟩ (fun H locs hw hS => ?_)
      refine lv_goto (tgt := 56) hx hb dX4_pair_20 (by decide) ?_
      exact K1 (ntO (mIS S 2) 8192 0 k) _ _ (by unfold prM; rw [if_neg h5, if_pos h6]) hw hS
  · skip
    have h5 : k < 0 := Int32.not_le.mp h5
    refine lv_iconst (v := (-1)) hx hb dX4_pair_4 (by decide) ?_
    refine lv_goto (tgt := 56) hx hb dX4_pair_5 (by decide) ?_
    exact K1 ((-1)) _ _ (by unfold prM; rw [if_pos h5]) hw hS
set_option maxRecDepth 100000 in
set_option maxHeartbeats 1000000 in
theorem m_count (l : Launch) (G : Gm) (S : St) (wh : Int32) : Pi l yX4_count wsX4_count ({ frames := 1, cells := 0, slots := 0, locals := 23 } : Room) [.ref (g_ad G 9 0), .int wh] G S (cuM S wh) (cuMS S wh) := by
  refine ent (cc := cX4_count) (maxL := 4) (ret := (some .int)) (by decide) rfl (Nat.le_of_ble_eq_true rfl) ?_
  intro p e s m below meth c ls C hw hT hS hl
  obtain ⟨hx, hb, hr, hml, hown, hts, hlk⟩ := C
  have hl : lv_has ls 4 [(0, .ref (g_ad G 9 0)), (1, .int wh)] := hl
  refine lv_aload_n hx hb dX4_count_0 rfl (lv_at hl 0 rfl) ?_
  have K1 : ∀ (b9 : Bool) (H : Heap) (locs : List Loc), b9 = (!(decide (wh < 0)) && !(decide (nI 6 < wh))) → wdM G S H s → va_S (g_A G) s.heap H locs → W p l e ({ frames := 1, cells := 0, slots := 0, locals := 23 } : Room) s m ([.ref (g_ad G 9 0), .int wh] : List Value).toArray below meth c H locs 0 0 (MQ below (Qi G (cuM S wh) (cuMS S wh)) ([.ref (g_ad G 9 0), .int wh] : List Value).toArray s ({ frames := 1, cells := 0, slots := 0, locals := 23 } : Room).cells ({ frames := 1, cells := 0, slots := 0, locals := 23 } : Room).slots (g_A G)) (F0 m 16 ls [.int (bI b9), .ref (g_ad G 9 0)]) := by
    intro b9 H locs hb9 hw hS
    subst hb9
    refine lv_iconst (v := nI 1) hx hb dX4_count_16 (by decide) ?_
    refine top_i (y := bI true) (by decide) ?_
    refine cVi ⟨hx, hb, hml, hown, hts⟩ (m_goes l G S (!(decide (wh < 0)) && !(decide (nI 6 < wh))) true) (cwV 2 hts gX4_count_X4_goes rfl rfl rfl (by decide +kernel) ⟨(Nat.le_of_ble_eq_true rfl), (Nat.le_of_ble_eq_true rfl)⟩) hw hT hS (rcv hw hT 9 0 (by decide) rfl rfl) (As := [.int (bI (!(decide (wh < 0)) && !(decide (nI 6 < wh)))), .int (bI true)]) (rest := []) rfl hl.1 rfl (Nat.le_of_ble_eq_true rfl) dX4_count_17 ⟨(Nat.le_of_ble_eq_true rfl), (Nat.le_of_ble_eq_true rfl)⟩ (fun H locs hw hS => ?_)
    refine lv_if_ne (tgt := 25) hx hb dX4_count_20 (by decide) (fun h2 => ?_) (fun h2 => ?_)
    · skip
      have h2 := bI_n0.mp h2
      replace hw : wdM G (okS S) H s := by rw [gs_ok h2] at hw; exact hw
      obtain ⟨X9, hX9⟩ : ∃ z, z = okS S := ⟨_, rfl⟩
      rw [← hX9] at hw
      refine lv_iconst (v := nI 0) hx hb dX4_count_25 (by decide) ?_
      refine lv_istore_n (lv' := [(2, .int (nI 0)), (0, .ref (g_ad G 9 0)), (1, .int wh)]) hx hb dX4_count_26 rfl hl (by decide) rfl (fun ls hl => ?_)
      refine lv_iconst (v := nI 0) hx hb dX4_count_27 (by decide) ?_
      refine lv_istore_n (lv' := [(3, .int (nI 0)), (2, .int (nI 0)), (0, .ref (g_ad G 9 0)), (1, .int wh)]) hx hb dX4_count_28 rfl hl (by decide) rfl (fun ls hl => ?_)
      have LOOP : ∀ (n o : Nat) (ac : Int32) (H : Heap) (locs : List Loc) (ls : Array Slot), o + n = 512 → (ac = nI (ctB (mZS X9 1) o)) → wdM G X9 H s → va_S (g_A G) s.heap H locs → lv_has ls 4 [(3, .int (nI o)), (2, .int ac), (0, .ref (g_ad G 9 0)), (1, .int wh)] → W p l e ({ frames := 1, cells := 0, slots := 0, locals := 23 } : Room) s m ([.ref (g_ad G 9 0), .int wh] : List Value).toArray below meth c H locs 0 0 (MQ below (Qi G (cuM S wh) (cuMS S wh)) ([.ref (g_ad G 9 0), .int wh] : List Value).toArray s ({ frames := 1, cells := 0, slots := 0, locals := 23 } : Room).cells ({ frames := 1, cells := 0, slots := 0, locals := 23 } : Room).slots (g_A G)) (F0 m 29 ls []) := by
        intro n
        induction n with
        | zero =>
          intro o ac H locs ls hn ha9 hw hS hl
          obtain rfl : 512 = o := by omega
          refine lv_iload_n hx hb dX4_count_29 rfl (lv_at hl 0 rfl) ?_
          refine lv_sipush (v := nI 512) hx hb dX4_count_30 (by decide) ?_
          refine lv_icmp_ge (tgt := 59) hx hb dX4_count_33 (by decide) (fun _ => ?_) (fun q => absurd (by decide) q)
          subst ha9
          have hl : lv_has ls 4 [(3, .int (nI 512)), (2, .int (nI (ctB (mZS X9 1) 512))), (0, .ref (g_ad G 9 0)), (1, .int wh)] := hl
          refine lv_iload_n hx hb dX4_count_59 rfl (lv_at hl 3 rfl) ?_
          by_cases h4 : wh = nI 0
          · skip
            subst h4
            refine lv_tableIn (off := 40) (tgt := 100) hx hb dX4_count_60 (by decide) (by decide) (by decide) (by decide) ?_
            refine lv_aload_n hx hb dX4_count_100 rfl (lv_at hl 2 rfl) ?_
            refine cVi ⟨hx, hb, hml, hown, hts⟩ (m_bodies l G X9) (cwV 0 hts gX4_count_X4_bodies rfl rfl rfl (by decide +kernel) ⟨(Nat.le_of_ble_eq_true rfl), (Nat.le_of_ble_eq_true rfl)⟩) hw hT hS (rcv hw hT 9 0 (by decide) rfl rfl) (As := []) (rest := []) rfl hl.1 rfl (Nat.le_of_ble_eq_true rfl) dX4_count_101 ⟨(Nat.le_of_ble_eq_true rfl), (Nat.le_of_ble_eq_true rfl)⟩ (fun H locs hw hS => ?_)
            exact ri hx hb hlk hr (by unfold cuMS; rw [gs_ok h2, ← hX9]; exact hw) hS (by unfold cuM; rw [if_pos h2, if_pos (show nI 0 = nI 0 from rfl)]; subst hX9; rfl) (vp_nar_int _) (Nat.le_of_ble_eq_true rfl) (Nat.le_of_ble_eq_true rfl) dX4_count_104
          by_cases h5 : wh = nI 1
          · skip
            subst h5
            refine lv_tableIn (off := 45) (tgt := 105) hx hb dX4_count_60 (by decide) (by decide) (by decide) (by decide) ?_
            refine lv_aload_n hx hb dX4_count_105 rfl (lv_at hl 2 rfl) ?_
            refine gf hx hb hown hts hw hT 9 0 (by decide) (ci := 4) rfl rfl (fun _ h => List.mem_cons_of_mem _ (List.mem_append_right _ h)) 8 (by decide) (List.mem_of_getElem? (i := 2) rfl) (v := .ref (g_ad G 11 2)) rfl dX4_count_106 ?_
            refine cSi ⟨hx, hb, hml, hown, hts⟩ (m_bits2 l G X9) (va_cwS 1 hts gX4_count_X4_bits rfl rfl rfl (by decide +kernel) ⟨(Nat.le_of_ble_eq_true rfl), (Nat.le_of_ble_eq_true rfl)⟩) hw hT hS (As := [.ref (g_ad G 11 2)]) (rest := []) rfl hl.1 rfl (Nat.le_of_ble_eq_true rfl) dX4_count_109 ⟨(Nat.le_of_ble_eq_true rfl), (Nat.le_of_ble_eq_true rfl)⟩ (fun H locs hw hS => ?_)
            exact ri hx hb hlk hr (by unfold cuMS; rw [gs_ok h2, ← hX9]; exact hw) hS (by unfold cuM; rw [if_pos h2, if_neg (show ¬ nI 1 = nI 0 by decide), if_pos (show nI 1 = nI 1 from rfl)]; subst hX9; rfl) (vp_nar_int _) (Nat.le_of_ble_eq_true rfl) (Nat.le_of_ble_eq_true rfl) dX4_count_112
          by_cases h6 : wh = nI 2
          · skip
            subst h6
            refine lv_tableIn (off := 53) (tgt := 113) hx hb dX4_count_60 (by decide) (by decide) (by decide) (by decide) ?_
            refine lv_aload_n hx hb dX4_count_113 rfl (lv_at hl 2 rfl) ?_
            refine gf hx hb hown hts hw hT 9 0 (by decide) (ci := 4) rfl rfl (fun _ h => List.mem_cons_of_mem _ (List.mem_append_right _ h)) 10 (by decide) (List.mem_of_getElem? (i := 3) rfl) (v := .ref (g_ad G 11 4)) rfl dX4_count_114 ?_
            refine cSi ⟨hx, hb, hml, hown, hts⟩ (m_bits4 l G X9) (va_cwS 1 hts gX4_count_X4_bits rfl rfl rfl (by decide +kernel) ⟨(Nat.le_of_ble_eq_true rfl), (Nat.le_of_ble_eq_true rfl)⟩) hw hT hS (As := [.ref (g_ad G 11 4)]) (rest := []) rfl hl.1 rfl (Nat.le_of_ble_eq_true rfl) dX4_count_117 ⟨(Nat.le_of_ble_eq_true rfl), (Nat.le_of_ble_eq_true rfl)⟩ (fun H locs hw hS => ?_)
            exact ri hx hb hlk hr (by unfold cuMS; rw [gs_ok h2, ← hX9]; exact hw) hS (by unfold cuM; rw [if_pos h2, if_neg (show ¬ nI 2 = nI 0 by decide), if_neg (show ¬ nI 2 = nI 1 by decide), if_pos (show nI 2 = nI 2 from rfl)]; subst hX9; rfl) (vp_nar_int _) (Nat.le_of_ble_eq_true rfl) (Nat.le_of_ble_eq_true rfl) dX4_count_120
          by_cases h7 : wh = nI 3
          · skip
            subst h7
            refine lv_tableIn (off := 61) (tgt := 121) hx hb dX4_count_60 (by decide) (by decide) (by decide) (by decide) ?_
            refine lv_aload_n hx hb dX4_count_121 rfl (lv_at hl 2 rfl) ?_
            refine gf hx hb hown hts hw hT 9 0 (by decide) (ci := 4) rfl rfl (fun _ h => List.mem_cons_of_mem _ (List.mem_append_right _ h)) 11 (by decide) (List.mem_of_getElem? (i := 4) rfl) (v := .ref (g_ad G 11 5)) rfl dX4_count_122 ?_
            refine cSi ⟨hx, hb, hml, hown, hts⟩ (m_bits5 l G X9) (va_cwS 1 hts gX4_count_X4_bits rfl rfl rfl (by decide +kernel) ⟨(Nat.le_of_ble_eq_true rfl), (Nat.le_of_ble_eq_true rfl)⟩) hw hT hS (As := [.ref (g_ad G 11 5)]) (rest := []) rfl hl.1 rfl (Nat.le_of_ble_eq_true rfl) dX4_count_125 ⟨(Nat.le_of_ble_eq_true rfl), (Nat.le_of_ble_eq_true rfl)⟩ (fun H locs hw hS => ?_)
            exact ri hx hb hlk hr (by unfold cuMS; rw [gs_ok h2, ← hX9]; exact hw) hS (by unfold cuM; rw [if_pos h2, if_neg (show ¬ nI 3 = nI 0 by decide), if_neg (show ¬ nI 3 = nI 1 by decide), if_neg (show ¬ nI 3 = nI 2 by decide), if_pos (show nI 3 = nI 3 from rfl)]; subst hX9; rfl) (vp_nar_int _) (Nat.le_of_ble_eq_true rfl) (Nat.le_of_ble_eq_true rfl) dX4_count_128
          by_cases h8 : wh = nI 4
          · skip
            subst h8
            refine lv_tableIn (off := 69) (tgt := 129) hx hb dX4_count_60 (by decide) (by decide) (by decide) (by decide) ?_
            refine lv_aload_n hx hb dX4_count_129 rfl (lv_at hl 2 rfl) ?_
            refine gf hx hb hown hts hw hT 9 0 (by decide) (ci := 4) rfl rfl (fun _ h => List.mem_cons_of_mem _ (List.mem_append_right _ h)) 12 (by decide) (List.mem_of_getElem? (i := 5) rfl) (v := .int (mnS X9 1)) rfl dX4_count_130 ?_
            exact ri hx hb hlk hr (by unfold cuMS; rw [gs_ok h2, ← hX9]; exact hw) hS (by unfold cuM; rw [if_pos h2, if_neg (show ¬ nI 4 = nI 0 by decide), if_neg (show ¬ nI 4 = nI 1 by decide), if_neg (show ¬ nI 4 = nI 2 by decide), if_neg (show ¬ nI 4 = nI 3 by decide), if_pos (show nI 4 = nI 4 from rfl)]; subst hX9; rfl) (vp_nar_int _) (Nat.le_of_ble_eq_true rfl) (Nat.le_of_ble_eq_true rfl) dX4_count_133
          by_cases h9 : wh = nI 5
          · skip
            subst h9
            refine lv_tableIn (off := 74) (tgt := 134) hx hb dX4_count_60 (by decide) (by decide) (by decide) (by decide) ?_
            refine lv_iload_n hx hb dX4_count_134 rfl (lv_at hl 1 rfl) ?_
            exact ri hx hb hlk hr (by unfold cuMS; rw [gs_ok h2, ← hX9]; exact hw) hS (by unfold cuM; rw [if_pos h2, if_neg (show ¬ nI 5 = nI 0 by decide), if_neg (show ¬ nI 5 = nI 1 by decide), if_neg (show ¬ nI 5 = nI 2 by decide), if_neg (show ¬ nI 5 = nI 3 by decide), if_neg (show ¬ nI 5 = nI 4 by decide), if_pos (show nI 5 = nI 5 from rfl)]; subst hX9; rfl) (vp_nar_int _) (Nat.le_of_ble_eq_true rfl) (Nat.le_of_ble_eq_true rfl) dX4_count_135
          have h10 := sw_out (n := 6) (x := wh) (by decide) (fun j hj => by rcases sw_6 hj with rfl | rfl | rfl | rfl | rfl | rfl <;> assumption)
          refine lv_tableOut (tgt := 136) hx hb dX4_count_60 h10 (by decide) ?_
          refine lv_aload_n hx hb dX4_count_136 rfl (lv_at hl 2 rfl) ?_
          refine gf hx hb hown hts hw hT 9 0 (by decide) (ci := 4) rfl rfl (fun _ h => List.mem_cons_of_mem _ (List.mem_append_right _ h)) 13 (by decide) (List.mem_of_getElem? (i := 6) rfl) (v := .int (mnS X9 2)) rfl dX4_count_137 ?_
          exact ri hx hb hlk hr (by unfold cuMS; rw [gs_ok h2, ← hX9]; exact hw) hS (by unfold cuM; rw [if_pos h2, if_neg h4, if_neg h5, if_neg h6, if_neg h7, if_neg h8, if_neg h9]; subst hX9; rfl) (vp_nar_int _) (Nat.le_of_ble_eq_true rfl) (Nat.le_of_ble_eq_true rfl) dX4_count_140
        | succ n ih =>
          intro o ac H locs ls hn ha9 hw hS hl
          have ho : o < 512 := by omega
          refine lv_iload_n hx hb dX4_count_29 rfl (lv_at hl 0 rfl) ?_
          refine lv_sipush (v := nI 512) hx hb dX4_count_30 (by decide) ?_
          refine lv_icmp_ge (tgt := 59) hx hb dX4_count_33 (by decide) (fun q => absurd q (nI_ge ho (by decide))) (fun _ => ?_)
          refine lv_aload_n hx hb dX4_count_36 rfl (lv_at hl 2 rfl) ?_
          refine gf hx hb hown hts hw hT 9 0 (by decide) (ci := 4) rfl rfl (fun _ h => List.mem_cons_of_mem _ (List.mem_append_right _ h)) 3 (by decide) (List.mem_of_getElem? (i := 1) rfl) (v := .ref (g_ad G 12 1)) rfl dX4_count_37 ?_
          refine lv_iload_n hx hb dX4_count_40 rfl (lv_at hl 0 rfl) ?_
          refine azl hx hb hw hT 12 1 (by decide) (f := (fun q => bI (mZS X9 1 q))) rfl o (show o < 512 by omega) (by decide) dX4_count_41 ?_
          refine lv_if_eq (tgt := 51) hx hb dX4_count_42 (by decide) (fun h12 => ?_) (fun h12 => ?_)
          · skip
            have h12 := bI_0.mp h12
            refine lv_iload_n hx hb dX4_count_51 rfl (lv_at hl 1 rfl) ?_
            refine lv_istore_n (lv' := [(2, .int ac), (3, .int (nI o)), (0, .ref (g_ad G 9 0)), (1, .int wh)]) hx hb dX4_count_52 rfl hl (by decide) rfl (fun ls hl => ?_)
            refine lv_iinc (v := nI (o + 1)) (lv' := [(3, .int (nI (o + 1))), (2, .int ac), (0, .ref (g_ad G 9 0)), (1, .int wh)]) hx hb dX4_count_53 hl (k := 1) rfl (nI_add o 1) (by decide) rfl (fun ls hl => ?_)
            refine lv_goto (tgt := 29) hx hb dX4_count_56 (by decide) ?_
            exact ih (o + 1) ac H locs ls (by omega) (by rw [ha9]; simp [ctB, h12, nI_add]) hw hS (lv_sub hl [0, 1, 2, 3] rfl)
          · skip
            have h12 := bI_n0.mp h12
            refine lv_iload_n hx hb dX4_count_45 rfl (lv_at hl 1 rfl) ?_
            refine lv_iconst (v := nI 1) hx hb dX4_count_46 (by decide) ?_
            refine lv_iadd hx hb dX4_count_47 ?_
            refine lv_goto (tgt := 52) hx hb dX4_count_48 (by decide) ?_
            refine lv_istore_n (lv' := [(2, .int (ac + (nI 1))), (3, .int (nI o)), (0, .ref (g_ad G 9 0)), (1, .int wh)]) hx hb dX4_count_52 rfl hl (by decide) rfl (fun ls hl => ?_)
            refine lv_iinc (v := nI (o + 1)) (lv' := [(3, .int (nI (o + 1))), (2, .int (ac + (nI 1))), (0, .ref (g_ad G 9 0)), (1, .int wh)]) hx hb dX4_count_53 hl (k := 1) rfl (nI_add o 1) (by decide) rfl (fun ls hl => ?_)
            refine lv_goto (tgt := 29) hx hb dX4_count_56 (by decide) ?_
            exact ih (o + 1) (ac + (nI 1)) H locs ls (by omega) (by rw [ha9]; simp [ctB, h12, nI_add]) hw hS (lv_sub hl [0, 1, 2, 3] rfl)
      exact LOOP 512 0 (nI 0) _ _ ls (by omega) rfl hw hS (lv_sub hl [0, 1, 2, 3] rfl)
    · skip
      have h2 := bI_0.mp h2
      refine lv_iconst (v := nI 0) hx hb dX4_count_23 (by decide) ?_
      exact ri hx hb hlk hr (by unfold cuMS; exact hw) hS (by unfold cuM; rw [if_neg (by rw [h2]; decide)]) (vp_nar_int _) (Nat.le_of_ble_eq_true rfl) (Nat.le_of_ble_eq_true rfl) dX4_count_24
  refine lv_iload_n hx hb dX4_count_1 rfl (lv_at hl 1 rfl) ?_
  refine lv_if_lt (tgt := 15) hx hb dX4_count_2 (by decide) (fun h13 => ?_) (fun h13 => ?_)
  · skip
    refine lv_iconst (v := nI 0) hx hb dX4_count_15 (by decide) ?_
    refine top_i (y := bI false) (by decide) ?_
    exact K1 false _ _ (by first | (simp only [h13, Bool.true_and, Bool.false_and, Bool.and_true, Bool.and_false]; done) | simp [h13]) hw hS
  · skip
    refine lv_iload_n hx hb dX4_count_5 rfl (lv_at hl 1 rfl) ?_
    refine lv_bipush (v := nI 6) hx hb dX4_count_6 (by decide) ?_
    refine lv_icmp_gt (tgt := 15) hx hb dX4_count_8 (by decide) (fun h14 => ?_) (fun h14 => ?_)
    · skip
      refine lv_iconst (v := nI 0) hx hb dX4_count_15 (by decide) ?_
      refine top_i (y := bI false) (by decide) ?_
      exact K1 false _ _ (by first | (simp only [h13, h14, Bool.true_and, Bool.false_and, Bool.and_true, Bool.and_false]; done) | simp [h13, h14]) hw hS
    · skip
      refine lv_iconst (v := nI 1) hx hb dX4_count_11 (by decide) ?_
      refine lv_goto (tgt := 16) hx hb dX4_count_12 (by decide) ?_
      refine top_i (y := bI true) (by decide) ?_
      exact K1 true _ _ (by first | (simp only [h13, h14, Bool.true_and, Bool.false_and, Bool.and_true, Bool.and_false]; done) | simp [h13, h14]) hw hS
