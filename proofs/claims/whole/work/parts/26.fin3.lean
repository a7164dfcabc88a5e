/-! PairFinder: addBodies, reviewPairsOf -/
/-- the row's boxes -/
def rwF (dx dy dz : UInt32) : Nat → (Nat → UInt32) → (Nat → UInt32)
  | 0, f => f
  | t + 1, f => mvF (rwF dx dy dz t f) dx dy dz
theorem rw_s {dx dy dz : UInt32} {t : Nat} {f : Nat → UInt32} (h : ¬ t = 0) : mvF (rwF dx dy dz (t - 1) f) dx dy dz = rwF dx dy dz t f := by
  match t, h with
  | t + 1, _ => rfl
def abR (N : Nat) (dx dy dz : UInt32) (g9 m9 : Int32) : Nat → Nat → St → Int32 → Nat → St × Int32 × Nat
  | 0, _, S, la, ad => (S, la, ad)
  | n + 1, b, S, la, ad => if ad < N then (if thS S b = true then abR N dx dy dz g9 m9 n (b + 1) S la ad else abR N dx dy dz g9 m9 n (b + 1) (apS (if ad = 0 then S else mvS S 1 dx dy dz) b 1 g9 m9) (nI b) (ad + 1)) else (S, la, ad)
def abD (N : Nat) (dx dy dz : UInt32) (g9 m9 : Int32) (S : St) : St × Int32 × Nat := abR N dx dy dz g9 m9 512 0 (cpF6 S 1 0) (-1) 0
def abT (N : Nat) (dx dy dz : UInt32) (g9 m9 : Int32) (S : St) : St := nfU (abD N dx dy dz g9 m9 S).1 (va_up (nfS (abD N dx dy dz g9 m9 S).1) 0 (nfS (abD N dx dy dz g9 m9 S).1 0 + nI (abD N dx dy dz g9 m9 S).2.2))
theorem ap_bx {S : St} {b a j : Nat} {g9 m9 : Int32} (h2 : j ≠ 2 * b + 2) (h3 : j ≠ 2 * b + 3) : bxS (apS S b a g9 m9) j = bxS S j := by
  unfold apS flS wdS cpF6
  show bxS (boxU _ _ _) j = _
  rw [bx_ne _ _ h3, bx_ne _ _ h3, bx_ne _ _ h2]
  rfl
theorem mv_b1 {S : St} {dx dy dz : UInt32} : bxS (mvS S 1 dx dy dz) 1 = mvF (bxS S 1) dx dy dz := by unfold mvS; rw [bx_s]
def rvS (S : St) (k : Nat) : Nat → St
  | 0 => S
  | o + 1 => if (decide (o = k) || (decide (o < k) && tcS (rvS S k o) o)) = true then rvS S k o else putS (rvS S k o) (ipS (rvS S k o)).2 (pcode k o) (pwB (rvS S k o) k o)
theorem put_ip (S : St) (i q : Nat) (b : Bool) : ipS (putS S i q b) = ipS S := by unfold putS; split <;> rfl
theorem rv_ip (S : St) (k : Nat) : ∀ o, ipS (rvS S k o) = ipS S
  | 0 => rfl
  | o + 1 => by
    unfold rvS
    split
    · exact rv_ip S k o
    · rw [put_ip]; exact rv_ip S k o
set_option maxRecDepth 100000 in
set_option maxHeartbeats 1000000 in
theorem c_addBodies (l : Launch) (G : Gm) (S : St) (N : Nat) (hN : 1 ≤ N) (hN5 : N ≤ 512) (dx dy dz : UInt32) (g9 m9 : Int32) (hm : mvB dx dy dz = true) (hrow : ∀ t, t < N → Gb (rwF dx dy dz t (bxS (cpF6 S 1 0) 1))) : Pi l yX3_addBodies wsX3_addBodies ({ frames := 3, cells := 0, slots := 0, locals := 104 } : Room) [.ref (g_ad G 0 0), .int (nI N), .float dx, .float dy, .float dz, .int g9, .int m9] G S ((abD N dx dy dz g9 m9 S).2.1) (abT N dx dy dz g9 m9 S) := by
  refine ent (cc := cX3_addBodies) (maxL := 10) (ret := (some .int)) (by decide) rfl (Nat.le_of_ble_eq_true rfl) ?_
  intro p e s m below meth c ls C hw hT hS hl
  obtain ⟨hx, hb, hr, hml, hown, hts, hlk⟩ := C
  have hl : lv_has ls 10 [(0, .ref (g_ad G 0 0)), (1, .int (nI N)), (2, .float dx), (3, .float dy), (4, .float dz), (5, .int g9), (6, .int m9)] := hl
  refine lv_aload_n hx hb dX3_addBodies_0 rfl (lv_at hl 0 rfl) ?_
  refine gf hx hb hown hts hw hT 0 0 (by decide) (ci := 3) rfl rfl (fun _ h => List.mem_cons_of_mem _ (List.mem_append_left _ (List.mem_append_left _ (List.mem_append_right _ h)))) 11 (by decide) (List.mem_of_getElem? (i := 1) rfl) (v := .ref (g_ad G 1 1)) rfl dX3_addBodies_1 ?_
  refine lv_aload_n hx hb dX3_addBodies_4 rfl (lv_at hl 0 rfl) ?_
  refine gf hx hb hown hts hw hT 0 0 (by decide) (ci := 3) rfl rfl (fun _ h => List.mem_cons_of_mem _ (List.mem_append_left _ (List.mem_append_left _ (List.mem_append_right _ h)))) 0 (by decide) (List.mem_of_getElem? (i := 2) rfl) (v := .ref (g_ad G 1 0)) rfl dX3_addBodies_5 ?_
  refine cVv ⟨hx, hb, hml, hown, hts⟩ (c_copyFrom l G S 1 (by decide) 0 (by decide) (by decide)) (cwV 1 hts gX3_addBodies_X1_copyFrom rfl rfl rfl (by decide +kernel) ⟨(Nat.le_of_ble_eq_true rfl), (Nat.le_of_ble_eq_true rfl)⟩) hw hT hS (rcv hw hT 1 1 (by decide) rfl rfl) (As := [.ref (g_ad G 1 0)]) (rest := []) rfl hl.1 rfl (Nat.le_of_ble_eq_true rfl) dX3_addBodies_8 ⟨(Nat.le_of_ble_eq_true rfl), (Nat.le_of_ble_eq_true rfl)⟩ (fun H locs hw hS => ?_)
  refine lv_iconst (v := (-1)) hx hb dX3_addBodies_11 (by decide) ?_
  refine lv_istore (lv' := [(7, .int ((-1))), (0, .ref (g_ad G 0 0)), (1, .int (nI N)), (2, .float dx), (3, .float dy), (4, .float dz), (5, .int g9), (6, .int m9)]) hx hb dX3_addBodies_12 hl (by decide) rfl (fun ls hl => ?_)
  refine lv_iconst (v := nI 0) hx hb dX3_addBodies_14 (by decide) ?_
  refine lv_istore (lv' := [(8, .int (nI 0)), (7, .int ((-1))), (0, .ref (g_ad G 0 0)), (1, .int (nI N)), (2, .float dx), (3, .float dy), (4, .float dz), (5, .int g9), (6, .int m9)]) hx hb dX3_addBodies_15 hl (by decide) rfl (fun ls hl => ?_)
  refine lv_iconst (v := nI 0) hx hb dX3_addBodies_17 (by decide) ?_
  refine lv_istore (lv' := [(9, .int (nI 0)), (8, .int (nI 0)), (7, .int ((-1))), (0, .ref (g_ad G 0 0)), (1, .int (nI N)), (2, .float dx), (3, .float dy), (4, .float dz), (5, .int g9), (6, .int m9)]) hx hb dX3_addBodies_18 hl (by decide) rfl (fun ls hl => ?_)
  have LOOP : ∀ (n b : Nat) (S2 : St) (la : Int32) (ad : Nat) (H : Heap) (locs : List Loc) (ls : Array Slot), b + n = 512 → (abR N dx dy dz g9 m9 n b S2 la ad = abD N dx dy dz g9 m9 S) → (bxS S2 1 = rwF dx dy dz (ad - 1) (bxS (cpF6 S 1 0) 1)) → (ad ≤ b) → wdM G S2 H s → va_S (g_A G) s.heap H locs → lv_has ls 10 [(9, .int (nI b)), (8, .int (nI ad)), (7, .int la), (0, .ref (g_ad G 0 0)), (1, .int (nI N)), (2, .float dx), (3, .float dy), (4, .float dz), (5, .int g9), (6, .int m9)] → W p l e ({ frames := 3, cells := 0, slots := 0, locals := 104 } : Room) s m ([.ref (g_ad G 0 0), .int (nI N), .float dx, .float dy, .float dz, .int g9, .int m9] : List Value).toArray below meth c H locs 0 0 (MQ below (Qi G ((abD N dx dy dz g9 m9 S).2.1) (abT N dx dy dz g9 m9 S)) ([.ref (g_ad G 0 0), .int (nI N), .float dx, .float dy, .float dz, .int g9, .int m9] : List Value).toArray s ({ frames := 3, cells := 0, slots := 0, locals := 104 } : Room).cells ({ frames := 3, cells := 0, slots := 0, locals := 104 } : Room).slots (g_A G)) (F0 m 20 ls []) := by
    intro n
    induction n with
    | zero =>
      intro b S2 la ad H locs ls hn hq hbx hab hw hS hl
      obtain rfl : 512 = b := by omega
      refine lv_iload hx hb dX3_addBodies_20 (lv_at hl 0 rfl) ?_
      refine lv_sipush (v := nI 512) hx hb dX3_addBodies_22 (by decide) ?_
      refine lv_icmp_ge (tgt := 94) hx hb dX3_addBodies_25 (by decide) (fun _ => ?_) (fun q => absurd (by decide) q)
      refine lv_aload_n hx hb dX3_addBodies_94 rfl (lv_at hl 3 rfl) ?_
      refine lv_dup hx hb dX3_addBodies_95 rfl ?_
      refine gf hx hb hown hts hw hT 0 0 (by decide) (ci := 3) rfl rfl (fun _ h => List.mem_cons_of_mem _ (List.mem_append_left _ (List.mem_append_left _ (List.mem_append_right _ h)))) 2 (by decide) (List.mem_of_getElem? (i := 5) rfl) (v := .int (nfS S2 0)) rfl dX3_addBodies_96 ?_
      refine lv_iload hx hb dX3_addBodies_99 (lv_at hl 1 rfl) ?_
      refine lv_iadd hx hb dX3_addBodies_101 ?_
      refine pf (S' := (nfU S2 (va_up (nfS S2) 0 ((nfS S2 0) + (nI ad))))) hx hb hown hts hw hT hS 0 0 (by decide) (ci := 3) rfl rfl (fun _ h => List.mem_cons_of_mem _ (List.mem_append_left _ (List.mem_append_left _ (List.mem_append_right _ h)))) tyX3 tyX3_ok nmX3 2 (by decide) (List.mem_of_getElem? (i := 5) rfl) rfl (ty := .int) (by decide +kernel) (vp_nar_int _) rfl (Nat.le_of_ble_eq_true rfl) (mup_nf0 G S2 ((nfS S2 0) + (nI ad))) dX3_addBodies_102 (fun H locs hw hS => ?_)
      refine lv_iload hx hb dX3_addBodies_105 (lv_at hl 2 rfl) ?_
      have e9 : abD N dx dy dz g9 m9 S = (S2, la, ad) := by
        rw [← hq]
        rfl
      exact ri hx hb hlk hr (by unfold abT; rw [e9]; exact hw) hS (by rw [e9]) (vp_nar_int _) (Nat.le_of_ble_eq_true rfl) (Nat.le_of_ble_eq_true rfl) dX3_addBodies_107
    | succ n ih =>
      intro b S2 la ad H locs ls hn hq hbx hab hw hS hl
      have hb9 : b < 512 := by omega
      refine lv_iload hx hb dX3_addBodies_20 (lv_at hl 0 rfl) ?_
      refine lv_sipush (v := nI 512) hx hb dX3_addBodies_22 (by decide) ?_
      refine lv_icmp_ge (tgt := 94) hx hb dX3_addBodies_25 (by decide) (fun q => absurd q (nI_ge hb9 (by decide))) (fun _ => ?_)
      refine lv_iload hx hb dX3_addBodies_28 (lv_at hl 1 rfl) ?_
      refine lv_iload_n hx hb dX3_addBodies_30 rfl (lv_at hl 4 rfl) ?_
      refine lv_icmp_ge (tgt := 94) hx hb dX3_addBodies_31 (by decide) (fun h3 => ?_) (fun h3 => ?_)
      · skip
        have h3 : N ≤ ad := (nI_leI (by omega) (by omega)).mp h3
        refine lv_aload_n hx hb dX3_addBodies_94 rfl (lv_at hl 3 rfl) ?_
        refine lv_dup hx hb dX3_addBodies_95 rfl ?_
        refine gf hx hb hown hts hw hT 0 0 (by decide) (ci := 3) rfl rfl (fun _ h => List.mem_cons_of_mem _ (List.mem_append_left _ (List.mem_append_left _ (List.mem_append_right _ h)))) 2 (by decide) (List.mem_of_getElem? (i := 5) rfl) (v := .int (nfS S2 0)) rfl dX3_addBodies_96 ?_
        refine lv_iload hx hb dX3_addBodies_99 (lv_at hl 1 rfl) ?_
        refine lv_iadd hx hb dX3_addBodies_101 ?_
        refine pf (S' := (nfU S2 (va_up (nfS S2) 0 ((nfS S2 0) + (nI ad))))) hx hb hown hts hw hT hS 0 0 (by decide) (ci := 3) rfl rfl (fun _ h => List.mem_cons_of_mem _ (List.mem_append_left _ (List.mem_append_left _ (List.mem_append_right _ h)))) tyX3 tyX3_ok nmX3 2 (by decide) (List.mem_of_getElem? (i := 5) rfl) rfl (ty := .int) (by decide +kernel) (vp_nar_int _) rfl (Nat.le_of_ble_eq_true rfl) (mup_nf0 G S2 ((nfS S2 0) + (nI ad))) dX3_addBodies_102 (fun H locs hw hS => ?_)
        refine lv_iload hx hb dX3_addBodies_105 (lv_at hl 2 rfl) ?_
        have e9 : abD N dx dy dz g9 m9 S = (S2, la, ad) := by
          rw [← hq]
          rw [abR, if_neg (by omega)]
        exact ri hx hb hlk hr (by unfold abT; rw [e9]; exact hw) hS (by rw [e9]) (vp_nar_int _) (Nat.le_of_ble_eq_true rfl) (Nat.le_of_ble_eq_true rfl) dX3_addBodies_107
      · skip
        have h3 : ¬ N ≤ ad := fun z => h3 ((nI_leI (by omega) (by omega)).mpr z)
        refine lv_aload_n hx hb dX3_addBodies_34 rfl (lv_at hl 3 rfl) ?_
        refine gf hx hb hown hts hw hT 0 0 (by decide) (ci := 3) rfl rfl (fun _ h => List.mem_cons_of_mem _ (List.mem_append_left _ (List.mem_append_left _ (List.mem_append_right _ h)))) 1 (by decide) (List.mem_of_getElem? (i := 3) rfl) (v := .ref (g_ad G 3 0)) rfl dX3_addBodies_35 ?_
        refine lv_iload hx hb dX3_addBodies_38 (lv_at hl 0 rfl) ?_
        refine abl hx hb hw hT b (show b < 512 by omega) dX3_addBodies_40 ?_
        refine gf hx hb hown hts hw hT 4 b (show b < 512 by omega) (ci := 0) rfl rfl (fun _ h => List.mem_cons_of_mem _ (List.mem_append_left _ (List.mem_append_right _ h))) 4 (by decide) (List.mem_of_getElem? (i := 4) rfl) (v := .int (bI (thS S2 b))) rfl dX3_addBodies_41 ?_
        refine lv_if_ne (tgt := 88) hx hb dX3_addBodies_44 (by decide) (fun h4 => ?_) (fun h4 => ?_)
        · skip
          have h4 := bI_n0.mp h4
          refine lv_iinc (v := nI (b + 1)) (lv' := [(9, .int (nI (b + 1))), (8, .int (nI ad)), (7, .int la), (0, .ref (g_ad G 0 0)), (1, .int (nI N)), (2, .float dx), (3, .float dy), (4, .float dz), (5, .int g9), (6, .int m9)]) hx hb dX3_addBodies_88 hl (k := 0) rfl (nI_add b 1) (by decide) rfl (fun ls hl => ?_)
          refine lv_goto (tgt := 20) hx hb dX3_addBodies_91 (by decide) ?_
          exact ih (b + 1) S2 la ad H locs ls (by omega) (by rw [← hq, abR, if_pos (show ad < N by omega), if_pos h4]) hbx (by omega) hw hS (lv_sub hl [0, 1, 2, 3, 4, 5, 6, 7, 8, 9] rfl)
        · skip
          have h4 := bI_0.mp h4
          refine lv_iload hx hb dX3_addBodies_47 (lv_at hl 1 rfl) ?_
          refine lv_if_le (tgt := 63) hx hb dX3_addBodies_49 (by decide) (fun h5 => ?_) (fun h5 => ?_)
          · skip
            have h5 : ad = 0 := (nz_le (by omega)).mp h5
            refine lv_aload_n hx hb dX3_addBodies_63 rfl (lv_at hl 3 rfl) ?_
            refine gf hx hb hown hts hw hT 0 0 (by decide) (ci := 3) rfl rfl (fun _ h => List.mem_cons_of_mem _ (List.mem_append_left _ (List.mem_append_left _ (List.mem_append_right _ h)))) 1 (by decide) (List.mem_of_getElem? (i := 3) rfl) (v := .ref (g_ad G 3 0)) rfl dX3_addBodies_64 ?_
            refine lv_iload hx hb dX3_addBodies_67 (lv_at hl 0 rfl) ?_
            refine abl hx hb hw hT b (show b < 512 by omega) dX3_addBodies_69 ?_
            refine lv_aload_n hx hb dX3_addBodies_70 rfl (lv_at hl 3 rfl) ?_
            refine gf hx hb hown hts hw hT 0 0 (by decide) (ci := 3) rfl rfl (fun _ h => List.mem_cons_of_mem _ (List.mem_append_left _ (List.mem_append_left _ (List.mem_append_right _ h)))) 11 (by decide) (List.mem_of_getElem? (i := 1) rfl) (v := .ref (g_ad G 1 1)) rfl dX3_addBodies_71 ?_
            refine lv_iload hx hb dX3_addBodies_74 (lv_at hl 8 rfl) ?_
            refine lv_iload hx hb dX3_addBodies_76 (lv_at hl 9 rfl) ?_
            refine cVv ⟨hx, hb, hml, hown, hts⟩ (c_appear l G S2 b (show b < 512 by omega) 1 (by decide) (by omega) (by omega) g9 m9 (ap_ok (by rw [hbx]; exact hrow _ (by omega)) (by omega))) (cwV 3 hts gX3_addBodies_X0_appear rfl rfl rfl (by decide +kernel) ⟨(Nat.le_of_ble_eq_true rfl), (Nat.le_of_ble_eq_true rfl)⟩) hw hT hS (rcv hw hT 4 b (show b < 512 by omega) rfl rfl) (As := [.ref (g_ad G 1 1), .int g9, .int m9]) (rest := []) rfl hl.1 rfl (Nat.le_of_ble_eq_true rfl) dX3_addBodies_78 ⟨(Nat.le_of_ble_eq_true rfl), (Nat.le_of_ble_eq_true rfl)⟩ (fun H locs hw hS => ?_)
            refine lv_iload hx hb dX3_addBodies_81 (lv_at hl 0 rfl) ?_
            refine lv_istore (lv' := [(7, .int (nI b)), (9, .int (nI b)), (8, .int (nI ad)), (0, .ref (g_ad G 0 0)), (1, .int (nI N)), (2, .float dx), (3, .float dy), (4, .float dz), (5, .int g9), (6, .int m9)]) hx hb dX3_addBodies_83 hl (by decide) rfl (fun ls hl => ?_)
            refine lv_iinc (v := nI (ad + 1)) (lv' := [(8, .int (nI (ad + 1))), (7, .int (nI b)), (9, .int (nI b)), (0, .ref (g_ad G 0 0)), (1, .int (nI N)), (2, .float dx), (3, .float dy), (4, .float dz), (5, .int g9), (6, .int m9)]) hx hb dX3_addBodies_85 hl (k := 2) rfl (nI_add ad 1) (by decide) rfl (fun ls hl => ?_)
            refine lv_iinc (v := nI (b + 1)) (lv' := [(9, .int (nI (b + 1))), (8, .int (nI (ad + 1))), (7, .int (nI b)), (0, .ref (g_ad G 0 0)), (1, .int (nI N)), (2, .float dx), (3, .float dy), (4, .float dz), (5, .int g9), (6, .int m9)]) hx hb dX3_addBodies_88 hl (k := 2) rfl (nI_add b 1) (by decide) rfl (fun ls hl => ?_)
            refine lv_goto (tgt := 20) hx hb dX3_addBodies_91 (by decide) ?_
            exact ih (b + 1) ((apS S2 b 1 g9 m9)) (nI b) (ad + 1) H locs ls (by omega) (by rw [← hq, abR, if_pos (show ad < N by omega), if_neg (by rw [h4]; decide), if_pos h5]) (by rw [ap_bx (by omega) (by omega), hbx]; congr 1; omega) (by omega) hw hS (lv_sub hl [0, 1, 2, 3, 4, 5, 6, 7, 8, 9] rfl)
          · skip
            have h5 : ¬ ad = 0 := fun z => h5 ((nz_le (by omega)).mpr z)
            refine lv_aload_n hx hb dX3_addBodies_52 rfl (lv_at hl 3 rfl) ?_
            refine gf hx hb hown hts hw hT 0 0 (by decide) (ci := 3) rfl rfl (fun _ h => List.mem_cons_of_mem _ (List.mem_append_left _ (List.mem_append_left _ (List.mem_append_right _ h)))) 11 (by decide) (List.mem_of_getElem? (i := 1) rfl) (v := .ref (g_ad G 1 1)) rfl dX3_addBodies_53 ?_
            refine lv_fload_n hx hb dX3_addBodies_56 rfl (lv_at hl 5 rfl) ?_
            refine lv_fload_n hx hb dX3_addBodies_57 rfl (lv_at hl 6 rfl) ?_
            refine lv_fload hx hb dX3_addBodies_58 (lv_at hl 7 rfl) ?_
            refine cVv ⟨hx, hb, hml, hown, hts⟩ (c_moveBy l G S2 1 (by decide) dx dy dz (mv_ok (by rw [hbx]; exact hrow _ (by omega)) hm)) (cwV 3 hts gX3_addBodies_X1_moveBy rfl rfl rfl (by decide +kernel) ⟨(Nat.le_of_ble_eq_true rfl), (Nat.le_of_ble_eq_true rfl)⟩) hw hT hS (rcv hw hT 1 1 (by decide) rfl rfl) (As := [.float dx, .float dy, .float dz]) (rest := []) rfl hl.1 rfl (Nat.le_of_ble_eq_true rfl) dX3_addBodies_60 ⟨(Nat.le_of_ble_eq_true rfl), (Nat.le_of_ble_eq_true rfl)⟩ (fun H locs hw hS => ?_)
            refine lv_aload_n hx hb dX3_addBodies_63 rfl (lv_at hl 3 rfl) ?_
            refine gf hx hb hown hts hw hT 0 0 (by decide) (ci := 3) rfl rfl (fun _ h => List.mem_cons_of_mem _ (List.mem_append_left _ (List.mem_append_left _ (List.mem_append_right _ h)))) 1 (by decide) (List.mem_of_getElem? (i := 3) rfl) (v := .ref (g_ad G 3 0)) rfl dX3_addBodies_64 ?_
            refine lv_iload hx hb dX3_addBodies_67 (lv_at hl 0 rfl) ?_
            refine abl hx hb hw hT b (show b < 512 by omega) dX3_addBodies_69 ?_
            refine lv_aload_n hx hb dX3_addBodies_70 rfl (lv_at hl 3 rfl) ?_
            refine gf hx hb hown hts hw hT 0 0 (by decide) (ci := 3) rfl rfl (fun _ h => List.mem_cons_of_mem _ (List.mem_append_left _ (List.mem_append_left _ (List.mem_append_right _ h)))) 11 (by decide) (List.mem_of_getElem? (i := 1) rfl) (v := .ref (g_ad G 1 1)) rfl dX3_addBodies_71 ?_
            refine lv_iload hx hb dX3_addBodies_74 (lv_at hl 8 rfl) ?_
            refine lv_iload hx hb dX3_addBodies_76 (lv_at hl 9 rfl) ?_
            refine cVv ⟨hx, hb, hml, hown, hts⟩ (c_appear l G (mvS S2 1 dx dy dz) b (show b < 512 by omega) 1 (by decide) (by omega) (by omega) g9 m9 (ap_ok (by rw [mv_b1, hbx, rw_s h5]; exact hrow _ (by omega)) (by omega))) (cwV 3 hts gX3_addBodies_X0_appear rfl rfl rfl (by decide +kernel) ⟨(Nat.le_of_ble_eq_true rfl), (Nat.le_of_ble_eq_true rfl)⟩) hw hT hS (rcv hw hT 4 b (show b < 512 by omega) rfl rfl) (As := [.ref (g_ad G 1 1), .int g9, .int m9]) (rest := []) rfl hl.1 rfl (Nat.le_of_ble_eq_true rfl) dX3_addBodies_78 ⟨(Nat.le_of_ble_eq_true rfl), (Nat.le_of_ble_eq_true rfl)⟩ (fun H locs hw hS => ?_)
            refine lv_iload hx hb dX3_addBodies_81 (lv_at hl 0 rfl) ?_
            refine lv_istore (lv' := [(7, .int (nI b)), (9, .int (nI b)), (8, .int (nI ad)), (0, .ref (g_ad G 0 0)), (1, .int (nI N)), (2, .float dx), (3, .float dy), (4, .float dz), (5, .int g9), (6, .int m9)]) hx hb dX3_addBodies_83 hl (by decide) rfl (fun ls hl => ?_)
            refine lv_iinc (v := nI (ad + 1)) (lv' := [(8, .int (nI (ad + 1))), (7, .int (nI b)), (9, .int (nI b)), (0, .ref (g_ad G 0 0)), (1, .int (nI N)), (2, .float dx), (3, .float dy), (4, .float dz), (5, .int g9), (6, .int m9)]) hx hb dX3_addBodies_85 hl (k := 2) rfl (nI_add ad 1) (by decide) rfl (fun ls hl => ?_)
            refine lv_iinc (v := nI (b + 1)) (lv' := [(9, .int (nI (b + 1))), (8, .int (nI (ad + 1))), (7, .int (nI b)), (0, .ref (g_ad G 0 0)), (1, .int (nI N)), (2, .float dx), (3, .float dy), (4, .float dz), (5, .int g9), (6, .int m9)]) hx hb dX3_addBodies_88 hl (k := 2) rfl (nI_add b 1) (by decide) rfl (fun ls hl => ?_)
            refine lv_goto (tgt := 20) hx hb dX3_addBodies_91 (by decide) ?_
            exact ih (b + 1) ((apS (mvS S2 1 dx dy dz) b 1 g9 m9)) (nI b) (ad + 1) H locs ls (by omega) (by rw [← hq, abR, if_pos (show ad < N by omega), if_neg (by rw [h4]; decide), if_neg h5]) (by rw [ap_bx (by omega) (by omega), mv_b1, hbx, rw_s h5]; congr 1) (by omega) hw hS (lv_sub hl [0, 1, 2, 3, 4, 5, 6, 7, 8, 9] rfl)
  exact LOOP 512 0 ((cpF6 S 1 0)) (-1) 0 _ _ ls (by omega) rfl rfl (by omega) hw hS (lv_sub hl [0, 1, 2, 3, 4, 5, 6, 7, 8, 9] rfl)
set_option maxRecDepth 100000 in
set_option maxHeartbeats 1000000 in
theorem c_reviewPairsOf (l : Launch) (G : Gm) (S : St) (hi1 : (ipS S).1 < 4) (hi2 : (ipS S).2 < 4) (k : Nat) (hk : k < 512) : Pv l yX3_reviewPairsOf wsX3_reviewPairsOf ({ frames := 2, cells := 0, slots := 0, locals := 43 } : Room) [.ref (g_ad G 0 0), .int (nI k)] G S (rvS S k 512) := by
  refine ent (cc := cX3_reviewPairsOf) (maxL := 5) (ret := none) (by decide) rfl (Nat.le_of_ble_eq_true rfl) ?_
  intro p e s m below meth c ls C hw hT hS hl
  obtain ⟨hx, hb, hr, hml, hown, hts, hlk⟩ := C
  have hl : lv_has ls 5 [(0, .ref (g_ad G 0 0)), (1, .int (nI k))] := hl
  refine lv_aload_n hx hb dX3_reviewPairsOf_0 rfl (lv_at hl 0 rfl) ?_
  refine gf hx hb hown hts hw hT 0 0 (by decide) (ci := 3) rfl rfl (fun _ h => List.mem_cons_of_mem _ (List.mem_append_left _ (List.mem_append_left _ (List.mem_append_left _ (List.mem_append_right _ h))))) 1 (by decide) (List.mem_of_getElem? (i := 1) rfl) (v := .ref (g_ad G 3 0)) rfl dX3_reviewPairsOf_1 ?_
  refine lv_iload_n hx hb dX3_reviewPairsOf_4 rfl (lv_at hl 1 rfl) ?_
  refine abl hx hb hw hT k (show k < 512 by omega) dX3_reviewPairsOf_5 ?_
  refine lv_astore_n (lv' := [(2, .ref (g_ad G 4 k)), (0, .ref (g_ad G 0 0)), (1, .int (nI k))]) hx hb dX3_reviewPairsOf_6 rfl hl (by decide) rfl (fun ls hl => ?_)
  refine lv_iconst (v := nI 0) hx hb dX3_reviewPairsOf_7 (by decide) ?_
  refine lv_istore_n (lv' := [(3, .int (nI 0)), (2, .ref (g_ad G 4 k)), (0, .ref (g_ad G 0 0)), (1, .int (nI k))]) hx hb dX3_reviewPairsOf_8 rfl hl (by decide) rfl (fun ls hl => ?_)
  have LOOP : ∀ (n o : Nat)  (H : Heap) (locs : List Loc) (ls : Array Slot), o + n = 512 → wdM G (rvS S k o) H s → va_S (g_A G) s.heap H locs → lv_has ls 5 [(3, .int (nI o)), (2, .ref (g_ad G 4 k)), (0, .ref (g_ad G 0 0)), (1, .int (nI k))] → W p l e ({ frames := 2, cells := 0, slots := 0, locals := 43 } : Room) s m ([.ref (g_ad G 0 0), .int (nI k)] : List Value).toArray below meth c H locs 0 0 (MQ below (Qv G (rvS S k 512)) ([.ref (g_ad G 0 0), .int (nI k)] : List Value).toArray s ({ frames := 2, cells := 0, slots := 0, locals := 43 } : Room).cells ({ frames := 2, cells := 0, slots := 0, locals := 43 } : Room).slots (g_A G)) (F0 m 9 ls []) := by
    intro n
    induction n with
    | zero =>
      intro o  H locs ls hn  hw hS hl
      obtain rfl : 512 = o := by omega
      refine lv_iload_n hx hb dX3_reviewPairsOf_9 rfl (lv_at hl 0 rfl) ?_
      refine lv_sipush (v := nI 512) hx hb dX3_reviewPairsOf_10 (by decide) ?_
      refine lv_icmp_ge (tgt := 78) hx hb dX3_reviewPairsOf_13 (by decide) (fun _ => ?_) (fun q => absurd (by decide) q)
      exact rv hx hb hlk hr hw hS  (Nat.le_of_ble_eq_true rfl) (Nat.le_of_ble_eq_true rfl) dX3_reviewPairsOf_78
    | succ n ih =>
      intro o  H locs ls hn  hw hS hl
      have ho : o < 512 := by omega
      have hip9 : (ipS (rvS S k o)).2 < 4 := by rw [rv_ip]; exact hi2
      have hpc := pcode_lt hk ho
      refine lv_iload_n hx hb dX3_reviewPairsOf_9 rfl (lv_at hl 0 rfl) ?_
      refine lv_sipush (v := nI 512) hx hb dX3_reviewPairsOf_10 (by decide) ?_
      refine lv_icmp_ge (tgt := 78) hx hb dX3_reviewPairsOf_13 (by decide) (fun q => absurd q (nI_ge ho (by decide))) (fun _ => ?_)
      refine lv_iload_n hx hb dX3_reviewPairsOf_16 rfl (lv_at hl 0 rfl) ?_
      refine lv_iload_n hx hb dX3_reviewPairsOf_17 rfl (lv_at hl 3 rfl) ?_
      refine lv_icmp_ge (tgt := 37) hx hb dX3_reviewPairsOf_18 (by decide) (fun h3 => ?_) (fun h3 => ?_)
      · skip
        have h3 : k ≤ o := (nI_leI (by omega) (by omega)).mp h3
        refine lv_iconst (v := nI 0) hx hb dX3_reviewPairsOf_37 (by decide) ?_
        refine lv_istore (lv' := [(4, .int (nI 0)), (3, .int (nI o)), (2, .ref (g_ad G 4 k)), (0, .ref (g_ad G 0 0)), (1, .int (nI k))]) hx hb dX3_reviewPairsOf_38 hl (by decide) rfl (fun ls hl => ?_)
        refine lv_iload_n hx hb dX3_reviewPairsOf_40 rfl (lv_at hl 1 rfl) ?_
        refine lv_iload_n hx hb dX3_reviewPairsOf_41 rfl (lv_at hl 4 rfl) ?_
        refine lv_icmp_eq (tgt := 72) hx hb dX3_reviewPairsOf_42 (by decide) (fun h4 => ?_) (fun h4 => ?_)
        · skip
          have h4 : o = k := (nI_eq (by omega) (by omega)).mp h4
          refine lv_iinc (v := nI (o + 1)) (lv' := [(3, .int (nI (o + 1))), (4, .int (nI 0)), (2, .ref (g_ad G 4 k)), (0, .ref (g_ad G 0 0)), (1, .int (nI k))]) hx hb dX3_reviewPairsOf_72 hl (k := 1) rfl (nI_add o 1) (by decide) rfl (fun ls hl => ?_)
          refine lv_goto (tgt := 9) hx hb dX3_reviewPairsOf_75 (by decide) ?_
          have hw : wdM G (rvS S k (o + 1)) H s := by
            rw [rvS, if_pos (by simp [h3, h4] <;> first | omega | (intro z; omega))]
            exact hw
          exact ih (o + 1)  H locs ls (by omega)  hw hS (lv_sub hl [0, 2, 3, 4] rfl)
        · skip
          have h4 : ¬ o = k := fun z => h4 ((nI_eq (by omega) (by omega)).mpr z)
          refine lv_iload hx hb dX3_reviewPairsOf_45 (lv_at hl 0 rfl) ?_
          refine lv_if_ne (tgt := 72) hx hb dX3_reviewPairsOf_47 (by decide) (fun q => absurd (by decide) q) (fun _ => ?_)
          refine lv_aload_n hx hb dX3_reviewPairsOf_50 rfl (lv_at hl 3 rfl) ?_
          refine gf hx hb hown hts hw hT 0 0 (by decide) (ci := 3) rfl rfl (fun _ h => List.mem_cons_of_mem _ (List.mem_append_left _ (List.mem_append_left _ (List.mem_append_left _ (List.mem_append_right _ h))))) 4 (by decide) (List.mem_of_getElem? (i := 3) rfl) (v := .ref (g_ad G 5 ((ipS (rvS S k o)).2))) rfl dX3_reviewPairsOf_51 ?_
          refine lv_iload_n hx hb dX3_reviewPairsOf_54 rfl (lv_at hl 4 rfl) ?_
          refine lv_iload_n hx hb dX3_reviewPairsOf_55 rfl (lv_at hl 1 rfl) ?_
          refine cSi ⟨hx, hb, hml, hown, hts⟩ (c_pairCode l G (rvS S k o) k (by omega) o (by omega)) (va_cwS 2 hts gX3_reviewPairsOf_X3_pairCode rfl rfl rfl (by decide +kernel) ⟨(Nat.le_of_ble_eq_true rfl), (Nat.le_of_ble_eq_true rfl)⟩) hw hT hS (As := [.int (nI k), .int (nI o)]) (rest := [.ref (g_ad G 5 ((ipS (rvS S k o)).2))]) rfl hl.1 rfl (Nat.le_of_ble_eq_true rfl) dX3_reviewPairsOf_56 ⟨(Nat.le_of_ble_eq_true rfl), (Nat.le_of_ble_eq_true rfl)⟩ (fun H locs hw hS => ?_)
          refine lv_aload_n hx hb dX3_reviewPairsOf_59 rfl (lv_at hl 2 rfl) ?_
          refine lv_aload_n hx hb dX3_reviewPairsOf_60 rfl (lv_at hl 3 rfl) ?_
          refine gf hx hb hown hts hw hT 0 0 (by decide) (ci := 3) rfl rfl (fun _ h => List.mem_cons_of_mem _ (List.mem_append_left _ (List.mem_append_left _ (List.mem_append_left _ (List.mem_append_right _ h))))) 1 (by decide) (List.mem_of_getElem? (i := 1) rfl) (v := .ref (g_ad G 3 0)) rfl dX3_reviewPairsOf_61 ?_
          refine lv_iload_n hx hb dX3_reviewPairsOf_64 rfl (lv_at hl 1 rfl) ?_
          refine abl hx hb hw hT o (show o < 512 by omega) dX3_reviewPairsOf_65 ?_
          refine cVi ⟨hx, hb, hml, hown, hts⟩ (c_pairsWith l G (rvS S k o) k (show k < 512 by omega) o (show o < 512 by omega)) (cwV 1 hts gX3_reviewPairsOf_X0_pairsWith rfl rfl rfl (by decide +kernel) ⟨(Nat.le_of_ble_eq_true rfl), (Nat.le_of_ble_eq_true rfl)⟩) hw hT hS (rcv hw hT 4 k (show k < 512 by omega) rfl rfl) (As := [.ref (g_ad G 4 o)]) (rest := [.int (nI (pcode k o)), .ref (g_ad G 5 ((ipS (rvS S k o)).2))]) rfl hl.1 rfl (Nat.le_of_ble_eq_true rfl) dX3_reviewPairsOf_66 ⟨(Nat.le_of_ble_eq_true rfl), (Nat.le_of_ble_eq_true rfl)⟩ (fun H locs hw hS => ?_)
          refine cVv ⟨hx, hb, hml, hown, hts⟩ (c_put l G (rvS S k o) ((ipS (rvS S k o)).2) (show (ipS (rvS S k o)).2 < 4 by omega) (pcode k o) (by omega) (pwB (rvS S k o) k o)) (cwV 2 hts gX3_reviewPairsOf_X2_put rfl rfl rfl (by decide +kernel) ⟨(Nat.le_of_ble_eq_true rfl), (Nat.le_of_ble_eq_true rfl)⟩) hw hT hS (rcv hw hT 5 ((ipS (rvS S k o)).2) (show (ipS (rvS S k o)).2 < 4 by omega) rfl rfl) (As := [.int (nI (pcode k o)), .int (bI (pwB (rvS S k o) k o))]) (rest := []) rfl hl.1 rfl (Nat.le_of_ble_eq_true rfl) dX3_reviewPairsOf_69 ⟨(Nat.le_of_ble_eq_true rfl), (Nat.le_of_ble_eq_true rfl)⟩ (fun H locs hw hS => ?_)
          refine lv_iinc (v := nI (o + 1)) (lv' := [(3, .int (nI (o + 1))), (4, .int (nI 0)), (2, .ref (g_ad G 4 k)), (0, .ref (g_ad G 0 0)), (1, .int (nI k))]) hx hb dX3_reviewPairsOf_72 hl (k := 1) rfl (nI_add o 1) (by decide) rfl (fun ls hl => ?_)
          refine lv_goto (tgt := 9) hx hb dX3_reviewPairsOf_75 (by decide) ?_
          have hw : wdM G (rvS S k (o + 1)) H s := by
            rw [rvS, if_neg (by simp [h3, h4] <;> first | omega | (intro z; omega))]
            exact hw
          exact ih (o + 1)  H locs ls (by omega)  hw hS (lv_sub hl [0, 2, 3, 4] rfl)
      · skip
        have h3 : ¬ k ≤ o := fun z => h3 ((nI_leI (by omega) (by omega)).mpr z)
        refine lv_aload_n hx hb dX3_reviewPairsOf_21 rfl (lv_at hl 2 rfl) ?_
        refine gf hx hb hown hts hw hT 0 0 (by decide) (ci := 3) rfl rfl (fun _ h => List.mem_cons_of_mem _ (List.mem_append_left _ (List.mem_append_left _ (List.mem_append_left _ (List.mem_append_right _ h))))) 1 (by decide) (List.mem_of_getElem? (i := 1) rfl) (v := .ref (g_ad G 3 0)) rfl dX3_reviewPairsOf_22 ?_
        refine lv_iload_n hx hb dX3_reviewPairsOf_25 rfl (lv_at hl 0 rfl) ?_
        refine abl hx hb hw hT o (show o < 512 by omega) dX3_reviewPairsOf_26 ?_
        refine gf hx hb hown hts hw hT 4 o (show o < 512 by omega) (ci := 0) rfl rfl (fun _ h => List.mem_cons_of_mem _ (List.mem_append_left _ (List.mem_append_left _ (List.mem_append_right _ h)))) 5 (by decide) (List.mem_of_getElem? (i := 2) rfl) (v := .int (bI (tcS (rvS S k o) o))) rfl dX3_reviewPairsOf_27 ?_
        refine lv_if_eq (tgt := 37) hx hb dX3_reviewPairsOf_30 (by decide) (fun h6 => ?_) (fun h6 => ?_)
        · skip
          have h6 := bI_0.mp h6
          refine lv_iconst (v := nI 0) hx hb dX3_reviewPairsOf_37 (by decide) ?_
          refine lv_istore (lv' := [(4, .int (nI 0)), (3, .int (nI o)), (2, .ref (g_ad G 4 k)), (0, .ref (g_ad G 0 0)), (1, .int (nI k))]) hx hb dX3_reviewPairsOf_38 hl (by decide) rfl (fun ls hl => ?_)
          refine lv_iload_n hx hb dX3_reviewPairsOf_40 rfl (lv_at hl 1 rfl) ?_
          refine lv_iload_n hx hb dX3_reviewPairsOf_41 rfl (lv_at hl 4 rfl) ?_
          refine lv_icmp_eq (tgt := 72) hx hb dX3_reviewPairsOf_42 (by decide) (fun q => absurd ((nI_eq (by omega) (by omega)).mp q) (by omega)) (fun _ => ?_)
          refine lv_iload hx hb dX3_reviewPairsOf_45 (lv_at hl 0 rfl) ?_
          refine lv_if_ne (tgt := 72) hx hb dX3_reviewPairsOf_47 (by decide) (fun q => absurd (by decide) q) (fun _ => ?_)
          refine lv_aload_n hx hb dX3_reviewPairsOf_50 rfl (lv_at hl 3 rfl) ?_
          refine gf hx hb hown hts hw hT 0 0 (by decide) (ci := 3) rfl rfl (fun _ h => List.mem_cons_of_mem _ (List.mem_append_left _ (List.mem_append_left _ (List.mem_append_left _ (List.mem_append_right _ h))))) 4 (by decide) (List.mem_of_getElem? (i := 3) rfl) (v := .ref (g_ad G 5 ((ipS (rvS S k o)).2))) rfl dX3_reviewPairsOf_51 ?_
          refine lv_iload_n hx hb dX3_reviewPairsOf_54 rfl (lv_at hl 4 rfl) ?_
          refine lv_iload_n hx hb dX3_reviewPairsOf_55 rfl (lv_at hl 1 rfl) ?_
          refine cSi ⟨hx, hb, hml, hown, hts⟩ (c_pairCode l G (rvS S k o) k (by omega) o (by omega)) (va_cwS 2 hts gX3_reviewPairsOf_X3_pairCode rfl rfl rfl (by decide +kernel) ⟨(Nat.le_of_ble_eq_true rfl), (Nat.le_of_ble_eq_true rfl)⟩) hw hT hS (As := [.int (nI k), .int (nI o)]) (rest := [.ref (g_ad G 5 ((ipS (rvS S k o)).2))]) rfl hl.1 rfl (Nat.le_of_ble_eq_true rfl) dX3_reviewPairsOf_56 ⟨(Nat.le_of_ble_eq_true rfl), (Nat.le_of_ble_eq_true rfl)⟩ (fun H locs hw hS => ?_)
          refine lv_aload_n hx hb dX3_reviewPairsOf_59 rfl (lv_at hl 2 rfl) ?_
          refine lv_aload_n hx hb dX3_reviewPairsOf_60 rfl (lv_at hl 3 rfl) ?_
          refine gf hx hb hown hts hw hT 0 0 (by decide) (ci := 3) rfl rfl (fun _ h => List.mem_cons_of_mem _ (List.mem_append_left _ (List.mem_append_left _ (List.mem_append_left _ (List.mem_append_right _ h))))) 1 (by decide) (List.mem_of_getElem? (i := 1) rfl) (v := .ref (g_ad G 3 0)) rfl dX3_reviewPairsOf_61 ?_
          refine lv_iload_n hx hb dX3_reviewPairsOf_64 rfl (lv_at hl 1 rfl) ?_
          refine abl hx hb hw hT o (show o < 512 by omega) dX3_reviewPairsOf_65 ?_
          refine cVi ⟨hx, hb, hml, hown, hts⟩ (c_pairsWith l G (rvS S k o) k (show k < 512 by omega) o (show o < 512 by omega)) (cwV 1 hts gX3_reviewPairsOf_X0_pairsWith rfl rfl rfl (by decide +kernel) ⟨(Nat.le_of_ble_eq_true rfl), (Nat.le_of_ble_eq_true rfl)⟩) hw hT hS (rcv hw hT 4 k (show k < 512 by omega) rfl rfl) (As := [.ref (g_ad G 4 o)]) (rest := [.int (nI (pcode k o)), .ref (g_ad G 5 ((ipS (rvS S k o)).2))]) rfl hl.1 rfl (Nat.le_of_ble_eq_true rfl) dX3_reviewPairsOf_66 ⟨(Nat.le_of_ble_eq_true rfl), (Nat.le_of_ble_eq_true rfl)⟩ (fun H locs hw hS => ?_)
          refine cVv ⟨hx, hb, hml, hown, hts⟩ (c_put l G (rvS S k o) ((ipS (rvS S k o)).2) (show (ipS (rvS S k o)).2 < 4 by omega) (pcode k o) (by omega) (pwB (rvS S k o) k o)) (cwV 2 hts gX3_reviewPairsOf_X2_put rfl rfl rfl (by decide +kernel) ⟨(Nat.le_of_ble_eq_true rfl), (Nat.le_of_ble_eq_true rfl)⟩) hw hT hS (rcv hw hT 5 ((ipS (rvS S k o)).2) (show (ipS (rvS S k o)).2 < 4 by omega) rfl rfl) (As := [.int (nI (pcode k o)), .int (bI (pwB (rvS S k o) k o))]) (rest := []) rfl hl.1 rfl (Nat.le_of_ble_eq_true rfl) dX3_reviewPairsOf_69 ⟨(Nat.le_of_ble_eq_true rfl), (Nat.le_of_ble_eq_true rfl)⟩ (fun H locs hw hS => ?_)
          refine lv_iinc (v := nI (o + 1)) (lv' := [(3, .int (nI (o + 1))), (4, .int (nI 0)), (2, .ref (g_ad G 4 k)), (0, .ref (g_ad G 0 0)), (1, .int (nI k))]) hx hb dX3_reviewPairsOf_72 hl (k := 1) rfl (nI_add o 1) (by decide) rfl (fun ls hl => ?_)
          refine lv_goto (tgt := 9) hx hb dX3_reviewPairsOf_75 (by decide) ?_
          have hw : wdM G (rvS S k (o + 1)) H s := by
            rw [rvS, if_neg (by simp [h3, h6] <;> first | omega | (intro z; omega))]
            exact hw
          exact ih (o + 1)  H locs ls (by omega)  hw hS (lv_sub hl [0, 2, 3, 4] rfl)
        · skip
          have h6 := bI_n0.mp h6
          refine lv_iconst (v := nI 1) hx hb dX3_reviewPairsOf_33 (by decide) ?_
          refine lv_goto (tgt := 38) hx hb dX3_reviewPairsOf_34 (by decide) ?_
          refine lv_istore (lv' := [(4, .int (nI 1)), (3, .int (nI o)), (2, .ref (g_ad G 4 k)), (0, .ref (g_ad G 0 0)), (1, .int (nI k))]) hx hb dX3_reviewPairsOf_38 hl (by decide) rfl (fun ls hl => ?_)
          refine lv_iload_n hx hb dX3_reviewPairsOf_40 rfl (lv_at hl 1 rfl) ?_
          refine lv_iload_n hx hb dX3_reviewPairsOf_41 rfl (lv_at hl 4 rfl) ?_
          refine lv_icmp_eq (tgt := 72) hx hb dX3_reviewPairsOf_42 (by decide) (fun q => absurd ((nI_eq (by omega) (by omega)).mp q) (by omega)) (fun _ => ?_)
          refine lv_iload hx hb dX3_reviewPairsOf_45 (lv_at hl 0 rfl) ?_
          refine lv_if_ne (tgt := 72) hx hb dX3_reviewPairsOf_47 (by decide) (fun _ => ?_) (fun q => absurd q (by decide))
          refine lv_iinc (v := nI (o + 1)) (lv' := [(3, .int (nI (o + 1))), (4, .int (nI 1)), (2, .ref (g_ad G 4 k)), (0, .ref (g_ad G 0 0)), (1, .int (nI k))]) hx hb dX3_reviewPairsOf_72 hl (k := 1) rfl (nI_add o 1) (by decide) rfl (fun ls hl => ?_)
          refine lv_goto (tgt := 9) hx hb dX3_reviewPairsOf_75 (by decide) ?_
          have hw : wdM G (rvS S k (o + 1)) H s := by
            rw [rvS, if_pos (by simp [h3, h6] <;> first | omega | (intro z; omega))]
            exact hw
          exact ih (o + 1)  H locs ls (by omega)  hw hS (lv_sub hl [0, 2, 3, 4] rfl)
  exact LOOP 512 0  _ _ ls (by omega)  hw hS (lv_sub hl [0, 1, 2, 3] rfl)
