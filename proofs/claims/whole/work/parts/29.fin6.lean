/-! PairFinder: remove, update, pair, the searches -/
def rmS (S : St) (k : Nat) : Nat → St
  | 0 => S
  | o + 1 => if apB (rmS S k o) k o = true then putS (rmS S k o) (ipS (rmS S k o)).1 (pcode k o) false else rmS S k o
def rmC (S : St) (k : Nat) : Nat → Nat
  | 0 => 0
  | o + 1 => rmC S k o + (if apB (rmS S k o) k o = true then 1 else 0)
def rmT (S : St) (k : Nat) : St := nfU (lvS (rmS S k 512) k) (va_up (nfS (lvS (rmS S k 512) k)) 0 (nfS (lvS (rmS S k 512) k) 0 - nI 1))
theorem rm_ip (S : St) (k : Nat) : ∀ o, ipS (rmS S k o) = ipS S
  | 0 => rfl
  | o + 1 => by
    unfold rmS
    split
    · rw [put_ip]; exact rm_ip S k o
    · exact rm_ip S k o
def upS (S : St) : Nat → St
  | 0 => cpsS S (ipS S).2 (ipS S).1
  | b + 1 => if tcS (upS S b) b = true then rvS (upS S b) b 512 else upS S b
theorem up_ip (S : St) : ∀ b, ipS (upS S b) = ipS S
  | 0 => rfl
  | b + 1 => by
    unfold upS
    split
    · rw [rv_ip]; exact up_ip S b
    · exact up_ip S b
theorem df_ip (S : St) (i a b n : Nat) : ipS (dfS S i a b n) = ipS S := rfl
def upX (S : St) : Option String := if nI 16384 < psS (upS S 512) (ipS S).2 then some xS else none
def upB (S : St) : St := dfS (upS S 512) 2 (ipS S).2 (ipS S).1 4096
def upE (S : St) : St := dfS (upB S) 3 (ipS S).1 (ipS S).2 4096
def clT (t : Nat → Bool) (n : Nat) : Nat → Bool := fun k => if k < n then false else t k
def upC (S : St) (n : Nat) : St := tcU (ipU (upE S) ((ipS S).2, (ipS S).1)) (clT (tcS (upE S)) n)
def upF (S : St) : St := nfU (upC S 512) (va_up (nfS (upC S 512)) 1 (nfS (upC S 512) 1 + nI 1))
theorem cl_0 (t : Nat → Bool) : clT t 0 = t := by funext k; simp [clT]
theorem cl_s (t : Nat → Bool) (n : Nat) : va_up (clT t n) n false = clT t (n + 1) := by
  funext k
  by_cases h : k = n
  · subst h; simp [va_up, clT]
  · by_cases h2 : k < n
    · simp [va_up, clT, h, h2, Nat.lt_succ_of_lt h2]
    · have h3 : ¬ k < n + 1 := by omega
      simp [va_up, clT, h, h2, h3]
theorem ipip (S : St) (a b : Nat × Nat) : ipU (ipU S a) b = ipU S b := rfl
theorem tcip (S : St) (a : Nat × Nat) : tcU (ipU S a) (tcS S) = ipU S a := rfl
theorem tccl (X : St) (t : Nat → Bool) (n : Nat) : tcU (tcU X (clT t n)) (va_up (tcS (tcU X (clT t n))) n false) = tcU X (clT t (n + 1)) := by
  show tcU X (va_up (clT t n) n false) = _
  rw [cl_s]
theorem up_s (S : St) (n : Nat) : tcU (upC S n) (va_up (tcS (upC S n)) n false) = upC S (n + 1) := by unfold upC; exact tccl _ _ _
theorem up_i (S : St) (n : Nat) : ipS (upC S n) = ((ipS S).2, (ipS S).1) := by unfold upC; rw [ip_tc, ip_ip]
set_option maxRecDepth 100000 in
set_option maxHeartbeats 1000000 in
theorem c_remove (l : Launch) (G : Gm) (S : St) (hl0 : l.stackTraces = false) (hi1 : (ipS S).1 < 4) (hi2 : (ipS S).2 < 4) (k : Int32) : Ti l yX3_remove wsX3_remove ({ frames := 7, cells := 1, slots := 6, locals := 103 } : Room) [.ref (g_ad G 0 0), .int k] G S (thereX S k) S (nI (rmC S (kN k) 512)) (rmT S (kN k)) := by
  refine entX (cc := cX3_remove) (maxL := 4) (ret := (some .int)) (by decide) rfl (Nat.le_of_ble_eq_true rfl) ?_
  intro p e s m below meth c ls C hw hT hS hte hl
  obtain ⟨hx, hb, hr, hml, hown, hts, hlk⟩ := C
  have hz1 := hw.2.2.2.2.1
  have hz2 := hw.2.2.2.2.2
  have hl : lv_has ls 4 [(0, .ref (g_ad G 0 0)), (1, .int k)] := hl
  refine lv_aload_n hx hb dX3_remove_0 rfl (lv_at hl 0 rfl) ?_
  refine lv_iload_n hx hb dX3_remove_1 rfl (lv_at hl 1 rfl) ?_
  refine xVv ⟨hx, hb, hml, hown, hts⟩ (c_requireThere l G S hl0 k) (cwV 1 hts gX3_remove_X3_requireThere rfl rfl rfl (by decide +kernel) ⟨(Nat.le_of_ble_eq_true rfl), (Nat.le_of_ble_eq_true rfl)⟩) hw hT hS (rcv hw hT 0 0 (by decide) rfl rfl) (As := [.int k]) (rest := []) rfl hl.1 rfl (Nat.le_of_ble_eq_true rfl) dX3_remove_2 ⟨(Nat.le_of_ble_eq_true rfl), (Nat.le_of_ble_eq_true rfl)⟩ (fun E ce q9 H locs h1 hw hS hce hcv hcl => ?_) (fun H locs h1 hw hS => ?_)
  · skip
    exact xo hte hlk h1 hw hS hce hcv hcl (Nat.le_of_ble_eq_true rfl) (Nat.le_of_ble_eq_true rfl)
  obtain ⟨kn, hkn, rfl, tkn⟩ := there_n h1
  refine lv_iconst (v := nI 0) hx hb dX3_remove_5 (by decide) ?_
  refine lv_istore_n (lv' := [(2, .int (nI 0)), (0, .ref (g_ad G 0 0)), (1, .int (nI kn))]) hx hb dX3_remove_6 rfl hl (by decide) rfl (fun ls hl => ?_)
  refine lv_iconst (v := nI 0) hx hb dX3_remove_7 (by decide) ?_
  refine lv_istore_n (lv' := [(3, .int (nI 0)), (2, .int (nI 0)), (0, .ref (g_ad G 0 0)), (1, .int (nI kn))]) hx hb dX3_remove_8 rfl hl (by decide) rfl (fun ls hl => ?_)
  have LOOP : ∀ (n o : Nat) (ac : Int32) (H : Heap) (locs : List Loc) (ls : Array Slot), o + n = 512 → (ac = nI (rmC S kn o)) → wdM G (rmS S kn o) H s → va_S (g_A G) s.heap H locs → lv_has ls 4 [(3, .int (nI o)), (2, .int ac), (0, .ref (g_ad G 0 0)), (1, .int (nI kn))] → W p l e ({ frames := 7, cells := 1, slots := 6, locals := 103 } : Room) s m ([.ref (g_ad G 0 0), .int (nI kn)] : List Value).toArray below meth c H locs 1 6 (vx_MQ below (Ki G (thereX S (nI kn)) (nI (rmC S (kN (nI kn)) 512)) (rmT S (kN (nI kn)))) (Kx G (thereX S (nI kn)) S) ([.ref (g_ad G 0 0), .int (nI kn)] : List Value).toArray s ({ frames := 7, cells := 1, slots := 6, locals := 103 } : Room).cells ({ frames := 7, cells := 1, slots := 6, locals := 103 } : Room).slots (g_A G)) (F0 m 9 ls []) := by
    intro n
    induction n with
    | zero =>
      intro o ac H locs ls hn ha9 hw hS hl
      obtain rfl : 512 = o := by omega
      refine lv_iload_n hx hb dX3_remove_9 rfl (lv_at hl 0 rfl) ?_
      refine lv_sipush (v := nI 512) hx hb dX3_remove_10 (by decide) ?_
      refine lv_icmp_ge (tgt := 47) hx hb dX3_remove_13 (by decide) (fun _ => ?_) (fun q => absurd (by decide) q)
      refine lv_aload_n hx hb dX3_remove_47 rfl (lv_at hl 2 rfl) ?_
      refine gf hx hb hown hts hw hT 0 0 (by decide) (ci := 3) rfl rfl (fun _ h => List.mem_cons_of_mem _ (List.mem_append_left _ (List.mem_append_left _ (List.mem_append_left _ (List.mem_append_right _ h))))) 1 (by decide) (List.mem_of_getElem? (i := 2) rfl) (v := .ref (g_ad G 3 0)) rfl dX3_remove_48 ?_
      refine lv_iload_n hx hb dX3_remove_51 rfl (lv_at hl 3 rfl) ?_
      refine abl hx hb hw hT kn (show kn < 512 by omega) dX3_remove_52 ?_
      refine cVv ⟨hx, hb, hml, hown, hts⟩ (c_leave l G (rmS S kn 512) kn (show kn < 512 by omega)) (cwV 0 hts gX3_remove_X0_leave rfl rfl rfl (by decide +kernel) ⟨(Nat.le_of_ble_eq_true rfl), (Nat.le_of_ble_eq_true rfl)⟩) hw hT hS (rcv hw hT 4 kn (show kn < 512 by omega) rfl rfl) (As := []) (rest := []) rfl hl.1 rfl (Nat.le_of_ble_eq_true rfl) dX3_remove_53 ⟨(Nat.le_of_ble_eq_true rfl), (Nat.le_of_ble_eq_true rfl)⟩ (fun H locs hw hS => ?_)
      refine lv_aload_n hx hb dX3_remove_56 rfl (lv_at hl 2 rfl) ?_
      refine lv_dup hx hb dX3_remove_57 rfl ?_
      refine gf hx hb hown hts hw hT 0 0 (by decide) (ci := 3) rfl rfl (fun _ h => List.mem_cons_of_mem _ (List.mem_append_left _ (List.mem_append_left _ (List.mem_append_left _ (List.mem_append_right _ h))))) 2 (by decide) (List.mem_of_getElem? (i := 3) rfl) (v := .int (nfS (lvS (rmS S kn 512) kn) 0)) rfl dX3_remove_58 ?_
      refine lv_iconst (v := nI 1) hx hb dX3_remove_61 (by decide) ?_
      refine lv_isub hx hb dX3_remove_62 ?_
      refine pf (S' := (nfU (lvS (rmS S kn 512) kn) (va_up (nfS (lvS (rmS S kn 512) kn)) 0 ((nfS (lvS (rmS S kn 512) kn) 0) - (nI 1))))) hx hb hown hts hw hT hS 0 0 (by decide) (ci := 3) rfl rfl (fun _ h => List.mem_cons_of_mem _ (List.mem_append_left _ (List.mem_append_left _ (List.mem_append_left _ (List.mem_append_right _ h))))) tyX3 tyX3_ok nmX3 2 (by decide) (List.mem_of_getElem? (i := 3) rfl) rfl (ty := .int) (by decide +kernel) (vp_nar_int _) rfl (Nat.le_of_ble_eq_true rfl) (mup_nf0 G (lvS (rmS S kn 512) kn) ((nfS (lvS (rmS S kn 512) kn) 0) - (nI 1))) dX3_remove_63 (fun H locs hw hS => ?_)
      refine lv_iload_n hx hb dX3_remove_66 rfl (lv_at hl 1 rfl) ?_
      exact rix hx hb hlk hr (by rw [kN_nI (show kn < 65536 by omega)]; exact hw) hS h1 (by rw [kN_nI (show kn < 65536 by omega)]; exact ha9) (vp_nar_int _) (Nat.le_of_ble_eq_true rfl) (Nat.le_of_ble_eq_true rfl) dX3_remove_67
    | succ n ih =>
      intro o ac H locs ls hn ha9 hw hS hl
      have ho : o < 512 := by omega
      have hip1 : (ipS (rmS S kn o)).1 < 4 := by rw [rm_ip]; exact hi1
      have hip2 : (ipS (rmS S kn o)).2 < 4 := by rw [rm_ip]; exact hi2
      have hpc := pcode_lt hkn ho
      refine lv_iload_n hx hb dX3_remove_9 rfl (lv_at hl 0 rfl) ?_
      refine lv_sipush (v := nI 512) hx hb dX3_remove_10 (by decide) ?_
      refine lv_icmp_ge (tgt := 47) hx hb dX3_remove_13 (by decide) (fun q => absurd q (nI_ge ho (by decide))) (fun _ => ?_)
      refine lv_aload_n hx hb dX3_remove_16 rfl (lv_at hl 2 rfl) ?_
      refine lv_iload_n hx hb dX3_remove_17 rfl (lv_at hl 3 rfl) ?_
      refine lv_iload_n hx hb dX3_remove_18 rfl (lv_at hl 0 rfl) ?_
      refine cVi ⟨hx, hb, hml, hown, hts⟩ (c_arePair l G (rmS S kn o) (by omega) (by omega) kn (by omega) o (by omega)) (cwV 2 hts gX3_remove_X3_arePair rfl rfl rfl (by decide +kernel) ⟨(Nat.le_of_ble_eq_true rfl), (Nat.le_of_ble_eq_true rfl)⟩) hw hT hS (rcv hw hT 0 0 (by decide) rfl rfl) (As := [.int (nI kn), .int (nI o)]) (rest := []) rfl hl.1 rfl (Nat.le_of_ble_eq_true rfl) dX3_remove_19 ⟨(Nat.le_of_ble_eq_true rfl), (Nat.le_of_ble_eq_true rfl)⟩ (fun H locs hw hS => ?_)
      refine lv_if_eq (tgt := 41) hx hb dX3_remove_22 (by decide) (fun h4 => ?_) (fun h4 => ?_)
      · skip
        have h4 := bI_0.mp h4
        refine lv_iinc (v := nI (o + 1)) (lv' := [(3, .int (nI (o + 1))), (2, .int ac), (0, .ref (g_ad G 0 0)), (1, .int (nI kn))]) hx hb dX3_remove_41 hl (k := 0) rfl (nI_add o 1) (by decide) rfl (fun ls hl => ?_)
        refine lv_goto (tgt := 9) hx hb dX3_remove_44 (by decide) ?_
        have hw : wdM G (rmS S kn (o + 1)) H s := by
          rw [rmS, if_neg (by rw [h4]; decide)]
          exact hw
        exact ih (o + 1) ac H locs ls (by omega) (by rw [ha9]; simp [rmC, h4, nI_1]) hw hS (lv_sub hl [0, 1, 2, 3] rfl)
      · skip
        have h4 := bI_n0.mp h4
        refine lv_aload_n hx hb dX3_remove_25 rfl (lv_at hl 2 rfl) ?_
        refine gf hx hb hown hts hw hT 0 0 (by decide) (ci := 3) rfl rfl (fun _ h => List.mem_cons_of_mem _ (List.mem_append_left _ (List.mem_append_left _ (List.mem_append_left _ (List.mem_append_right _ h))))) 3 (by decide) (List.mem_of_getElem? (i := 1) rfl) (v := .ref (g_ad G 5 ((ipS (rmS S kn o)).1))) rfl dX3_remove_26 ?_
        refine lv_iload_n hx hb dX3_remove_29 rfl (lv_at hl 3 rfl) ?_
        refine lv_iload_n hx hb dX3_remove_30 rfl (lv_at hl 0 rfl) ?_
        refine cSi ⟨hx, hb, hml, hown, hts⟩ (c_pairCode l G (rmS S kn o) kn (by omega) o (by omega)) (va_cwS 2 hts gX3_remove_X3_pairCode rfl rfl rfl (by decide +kernel) ⟨(Nat.le_of_ble_eq_true rfl), (Nat.le_of_ble_eq_true rfl)⟩) hw hT hS (As := [.int (nI kn), .int (nI o)]) (rest := [.ref (g_ad G 5 ((ipS (rmS S kn o)).1))]) rfl hl.1 rfl (Nat.le_of_ble_eq_true rfl) dX3_remove_31 ⟨(Nat.le_of_ble_eq_true rfl), (Nat.le_of_ble_eq_true rfl)⟩ (fun H locs hw hS => ?_)
        refine lv_iconst (v := nI 0) hx hb dX3_remove_34 (by decide) ?_
        refine top_i (y := bI false) (by decide) ?_
        refine cVv ⟨hx, hb, hml, hown, hts⟩ (c_put l G (rmS S kn o) ((ipS (rmS S kn o)).1) (show (ipS (rmS S kn o)).1 < 4 by omega) (pcode kn o) (by omega) false) (cwV 2 hts gX3_remove_X2_put rfl rfl rfl (by decide +kernel) ⟨(Nat.le_of_ble_eq_true rfl), (Nat.le_of_ble_eq_true rfl)⟩) hw hT hS (rcv hw hT 5 ((ipS (rmS S kn o)).1) (show (ipS (rmS S kn o)).1 < 4 by omega) rfl rfl) (As := [.int (nI (pcode kn o)), .int (bI false)]) (rest := []) rfl hl.1 rfl (Nat.le_of_ble_eq_true rfl) dX3_remove_35 ⟨(Nat.le_of_ble_eq_true rfl), (Nat.le_of_ble_eq_true rfl)⟩ (fun H locs hw hS => ?_)
        refine lv_iinc (v := ac + 1) (lv' := [(2, .int (ac + 1)), (3, .int (nI o)), (0, .ref (g_ad G 0 0)), (1, .int (nI kn))]) hx hb dX3_remove_38 hl (k := 1) rfl rfl (by decide) rfl (fun ls hl => ?_)
        refine lv_iinc (v := nI (o + 1)) (lv' := [(3, .int (nI (o + 1))), (2, .int (ac + 1)), (0, .ref (g_ad G 0 0)), (1, .int (nI kn))]) hx hb dX3_remove_41 hl (k := 1) rfl (nI_add o 1) (by decide) rfl (fun ls hl => ?_)
        refine lv_goto (tgt := 9) hx hb dX3_remove_44 (by decide) ?_
        have hw : wdM G (rmS S kn (o + 1)) H s := by
          rw [rmS, if_pos h4]
          exact hw
        exact ih (o + 1) (ac + 1) H locs ls (by omega) (by rw [ha9]; simp [rmC, h4, nI_1]) hw hS (lv_sub hl [0, 1, 2, 3] rfl)
  exact LOOP 512 0 (nI 0) _ _ ls (by omega) rfl hw hS (lv_sub hl [0, 1, 2, 3] rfl)
def prI (S : St) (wh : Int32) : Nat := if wh = 0 then (ipS S).1 else if wh = nI 1 then 2 else 3
def prX (S : St) (wh k : Int32) : Option String := if wh < 0 then some xI else if nI 2 < wh then some xI else if k < 0 then some xI else if k < psS S (prI S wh) then none else some xI
set_option maxRecDepth 100000 in
set_option maxHeartbeats 1000000 in
theorem c_pair (l : Launch) (G : Gm) (S : St) (hl0 : l.stackTraces = false) (hi1 : (ipS S).1 < 4) (hi2 : (ipS S).2 < 4) (wh k : Int32) : Ti l yX3_pair wsX3_pair ({ frames := 6, cells := 1, slots := 6, locals := 82 } : Room) [.ref (g_ad G 0 0), .int wh, .int k] G S (prX S wh k) S (caF (pwS S (prI S wh)) 4096 0 k) S := by
  refine entX (cc := cX3_pair) (maxL := 4) (ret := (some .int)) (by decide) rfl (Nat.le_of_ble_eq_true rfl) ?_
  intro p e s m below meth c ls C hw hT hS hte hl
  obtain ⟨hx, hb, hr, hml, hown, hts, hlk⟩ := C
  have hz1 := hw.2.2.2.2.1
  have hz2 := hw.2.2.2.2.2
  have hl : lv_has ls 4 [(0, .ref (g_ad G 0 0)), (1, .int wh), (2, .int k)] := hl
  refine lv_iload_n hx hb dX3_pair_0 rfl (lv_at hl 1 rfl) ?_
  refine lv_if_lt (tgt := 9) hx hb dX3_pair_1 (by decide) (fun h1 => ?_) (fun h1 => ?_)
  · skip
    exact thrI hx hb hl0 hown hts hlk hml hl.1 hw hT hS hte (by unfold prX; rw [if_pos h1]) (List.mem_of_getElem? (i := 1) rfl) (List.mem_of_getElem? (i := 2) rfl) (fun _ h => List.mem_cons_of_mem _ (List.mem_append_right _ h)) (List.mem_of_getElem? (i := 1) rfl) hS.1 dX3_pair_9 dX3_pair_12 dX3_pair_13 dX3_pair_15 dX3_pair_18 (Nat.le_of_ble_eq_true rfl) (Nat.le_of_ble_eq_true rfl) (Nat.le_of_ble_eq_true rfl) (Nat.le_of_ble_eq_true rfl) (Nat.le_of_ble_eq_true rfl) (Nat.le_of_ble_eq_true rfl) hz1 hz2
  · skip
    refine lv_iload_n hx hb dX3_pair_4 rfl (lv_at hl 1 rfl) ?_
    refine lv_iconst (v := nI 2) hx hb dX3_pair_5 (by decide) ?_
    refine lv_icmp_le (tgt := 19) hx hb dX3_pair_6 (by decide) (fun h2 => ?_) (fun h2 => ?_)
    · skip
      have h2 : ¬ (nI 2) < wh := Int32.not_lt.mpr h2
      refine lv_iload_n hx hb dX3_pair_19 rfl (lv_at hl 1 rfl) ?_
      refine lv_if_ne (tgt := 30) hx hb dX3_pair_20 (by decide) (fun h3 => ?_) (fun h3 => ?_)
      · skip
        refine lv_iload_n hx hb dX3_pair_30 rfl (lv_at hl 1 rfl) ?_
        refine lv_iconst (v := nI 1) hx hb dX3_pair_31 (by decide) ?_
        refine lv_icmp_ne (tgt := 42) hx hb dX3_pair_32 (by decide) (fun h4 => ?_) (fun h4 => ?_)
        · skip
          refine lv_aload_n hx hb dX3_pair_42 rfl (lv_at hl 0 rfl) ?_
          refine gf hx hb hown hts hw hT 0 0 (by decide) (ci := 3) rfl rfl (fun _ h => List.mem_cons_of_mem _ (List.mem_append_left _ (List.mem_append_left _ (List.mem_append_right _ h)))) 6 (by decide) (List.mem_of_getElem? (i := 5) rfl) (v := .ref (g_ad G 5 3)) rfl dX3_pair_43 ?_
          have e9 : prI S wh = 3 := by unfold prI; rw [if_neg h3, if_neg h4]
          refine lv_astore_n (lv' := [(3, .ref (g_ad G 5 3)), (0, .ref (g_ad G 0 0)), (1, .int wh), (2, .int k)]) hx hb dX3_pair_46 rfl hl (by decide) rfl (fun ls hl => ?_)
          refine lv_iload_n hx hb dX3_pair_47 rfl (lv_at hl 3 rfl) ?_
          refine lv_if_lt (tgt := 59) hx hb dX3_pair_48 (by decide) (fun h5 => ?_) (fun h5 => ?_)
          · skip
            exact thrI hx hb hl0 hown hts hlk hml hl.1 hw hT hS hte (by unfold prX; rw [if_neg h1, if_neg h2, if_pos h5]) (List.mem_of_getElem? (i := 1) rfl) (List.mem_of_getElem? (i := 2) rfl) (fun _ h => List.mem_cons_of_mem _ (List.mem_append_right _ h)) (List.mem_of_getElem? (i := 2) rfl) hS.1 dX3_pair_59 dX3_pair_62 dX3_pair_63 dX3_pair_65 dX3_pair_68 (Nat.le_of_ble_eq_true rfl) (Nat.le_of_ble_eq_true rfl) (Nat.le_of_ble_eq_true rfl) (Nat.le_of_ble_eq_true rfl) (Nat.le_of_ble_eq_true rfl) (Nat.le_of_ble_eq_true rfl) hz1 hz2
          · skip
            refine lv_iload_n hx hb dX3_pair_51 rfl (lv_at hl 3 rfl) ?_
            refine lv_aload_n hx hb dX3_pair_52 rfl (lv_at hl 0 rfl) ?_
            refine gf hx hb hown hts hw hT 5 3 (by decide) (ci := 2) rfl rfl (fun _ h => List.mem_cons_of_mem _ (List.mem_append_left _ (List.mem_append_right _ h))) 1 (by decide) (List.mem_of_getElem? (i := 6) rfl) (v := .int (psS S 3)) rfl dX3_pair_53 ?_
            refine lv_icmp_lt (tgt := 69) hx hb dX3_pair_56 (by decide) (fun h6 => ?_) (fun h6 => ?_)
            · skip
              refine lv_aload_n hx hb dX3_pair_69 rfl (lv_at hl 0 rfl) ?_
              refine lv_iload_n hx hb dX3_pair_70 rfl (lv_at hl 3 rfl) ?_
              refine cVi ⟨hx, hb, hml, hown, hts⟩ (c_codeAt l G S 3 (by decide) k) (cwV 1 hts gX3_pair_X2_codeAt rfl rfl rfl (by decide +kernel) ⟨(Nat.le_of_ble_eq_true rfl), (Nat.le_of_ble_eq_true rfl)⟩) hw hT hS (rcv hw hT 5 3 (by decide) rfl rfl) (As := [.int k]) (rest := []) rfl hl.1 rfl (Nat.le_of_ble_eq_true rfl) dX3_pair_71 ⟨(Nat.le_of_ble_eq_true rfl), (Nat.le_of_ble_eq_true rfl)⟩ (fun H locs hw hS => ?_)
              exact rix hx hb hlk hr hw hS (by unfold prX; rw [if_neg h1, if_neg h2, if_neg h5, e9, if_pos h6]) (by rw [e9]) (vp_nar_int _) (Nat.le_of_ble_eq_true rfl) (Nat.le_of_ble_eq_true rfl) dX3_pair_74
            · skip
              exact thrI hx hb hl0 hown hts hlk hml hl.1 hw hT hS hte (by unfold prX; rw [if_neg h1, if_neg h2, if_neg h5, e9, if_neg h6]) (List.mem_of_getElem? (i := 1) rfl) (List.mem_of_getElem? (i := 2) rfl) (fun _ h => List.mem_cons_of_mem _ (List.mem_append_right _ h)) (List.mem_of_getElem? (i := 2) rfl) hS.1 dX3_pair_59 dX3_pair_62 dX3_pair_63 dX3_pair_65 dX3_pair_68 (Nat.le_of_ble_eq_true rfl) (Nat.le_of_ble_eq_true rfl) (Nat.le_of_ble_eq_true rfl) (Nat.le_of_ble_eq_true rfl) (Nat.le_of_ble_eq_true rfl) (Nat.le_of_ble_eq_true rfl) hz1 hz2
        · skip
          refine lv_aload_n hx hb dX3_pair_35 rfl (lv_at hl 0 rfl) ?_
          refine gf hx hb hown hts hw hT 0 0 (by decide) (ci := 3) rfl rfl (fun _ h => List.mem_cons_of_mem _ (List.mem_append_left _ (List.mem_append_left _ (List.mem_append_right _ h)))) 5 (by decide) (List.mem_of_getElem? (i := 4) rfl) (v := .ref (g_ad G 5 2)) rfl dX3_pair_36 ?_
          refine lv_goto (tgt := 46) hx hb dX3_pair_39 (by decide) ?_
          have e9 : prI S wh = 2 := by unfold prI; rw [if_neg h3, if_pos h4]
          refine lv_astore_n (lv' := [(3, .ref (g_ad G 5 2)), (0, .ref (g_ad G 0 0)), (1, .int wh), (2, .int k)]) hx hb dX3_pair_46 rfl hl (by decide) rfl (fun ls hl => ?_)
          refine lv_iload_n hx hb dX3_pair_47 rfl (lv_at hl 3 rfl) ?_
          refine lv_if_lt (tgt := 59) hx hb dX3_pair_48 (by decide) (fun h7 => ?_) (fun h7 => ?_)
          · skip
            exact thrI hx hb hl0 hown hts hlk hml hl.1 hw hT hS hte (by unfold prX; rw [if_neg h1, if_neg h2, if_pos h7]) (List.mem_of_getElem? (i := 1) rfl) (List.mem_of_getElem? (i := 2) rfl) (fun _ h => List.mem_cons_of_mem _ (List.mem_append_right _ h)) (List.mem_of_getElem? (i := 2) rfl) hS.1 dX3_pair_59 dX3_pair_62 dX3_pair_63 dX3_pair_65 dX3_pair_68 (Nat.le_of_ble_eq_true rfl) (Nat.le_of_ble_eq_true rfl) (Nat.le_of_ble_eq_true rfl) (Nat.le_of_ble_eq_true rfl) (Nat.le_of_ble_eq_true rfl) (Nat.le_of_ble_eq_true rfl) hz1 hz2
          · skip
            refine lv_iload_n hx hb dX3_pair_51 rfl (lv_at hl 3 rfl) ?_
            refine lv_aload_n hx hb dX3_pair_52 rfl (lv_at hl 0 rfl) ?_
            refine gf hx hb hown hts hw hT 5 2 (by decide) (ci := 2) rfl rfl (fun _ h => List.mem_cons_of_mem _ (List.mem_append_left _ (List.mem_append_right _ h))) 1 (by decide) (List.mem_of_getElem? (i := 6) rfl) (v := .int (psS S 2)) rfl dX3_pair_53 ?_
            refine lv_icmp_lt (tgt := 69) hx hb dX3_pair_56 (by decide) (fun h8 => ?_) (fun h8 => ?_)
            · skip
              refine lv_aload_n hx hb dX3_pair_69 rfl (lv_at hl 0 rfl) ?_
              refine lv_iload_n hx hb dX3_pair_70 rfl (lv_at hl 3 rfl) ?_
              refine cVi ⟨hx, hb, hml, hown, hts⟩ (c_codeAt l G S 2 (by decide) k) (cwV 1 hts gX3_pair_X2_codeAt rfl rfl rfl (by decide +kernel) ⟨(Nat.le_of_ble_eq_true rfl), (Nat.le_of_ble_eq_true rfl)⟩) hw hT hS (rcv hw hT 5 2 (by decide) rfl rfl) (As := [.int k]) (rest := []) rfl hl.1 rfl (Nat.le_of_ble_eq_true rfl) dX3_pair_71 ⟨(Nat.le_of_ble_eq_true rfl), (Nat.le_of_ble_eq_true rfl)⟩ (fun H locs hw hS => ?_)
              exact rix hx hb hlk hr hw hS (by unfold prX; rw [if_neg h1, if_neg h2, if_neg h7, e9, if_pos h8]) (by rw [e9]) (vp_nar_int _) (Nat.le_of_ble_eq_true rfl) (Nat.le_of_ble_eq_true rfl) dX3_pair_74
            · skip
              exact thrI hx hb hl0 hown hts hlk hml hl.1 hw hT hS hte (by unfold prX; rw [if_neg h1, if_neg h2, if_neg h7, e9, if_neg h8]) (List.mem_of_getElem? (i := 1) rfl) (List.mem_of_getElem? (i := 2) rfl) (fun _ h => List.mem_cons_of_mem _ (List.mem_append_right _ h)) (List.mem_of_getElem? (i := 2) rfl) hS.1 dX3_pair_59 dX3_pair_62 dX3_pair_63 dX3_pair_65 dX3_pair_68 (Nat.le_of_ble_eq_true rfl) (Nat.le_of_ble_eq_true rfl) (Nat.le_of_ble_eq_true rfl) (Nat.le_of_ble_eq_true rfl) (Nat.le_of_ble_eq_true rfl) (Nat.le_of_ble_eq_true rfl) hz1 hz2
      · skip
        refine lv_aload_n hx hb dX3_pair_23 rfl (lv_at hl 0 rfl) ?_
        refine gf hx hb hown hts hw hT 0 0 (by decide) (ci := 3) rfl rfl (fun _ h => List.mem_cons_of_mem _ (List.mem_append_left _ (List.mem_append_left _ (List.mem_append_right _ h)))) 3 (by decide) (List.mem_of_getElem? (i := 3) rfl) (v := .ref (g_ad G 5 ((ipS S).1))) rfl dX3_pair_24 ?_
        refine lv_goto (tgt := 46) hx hb dX3_pair_27 (by decide) ?_
        have e9 : prI S wh = (ipS S).1 := by unfold prI; rw [if_pos h3]
        refine lv_astore_n (lv' := [(3, .ref (g_ad G 5 ((ipS S).1))), (0, .ref (g_ad G 0 0)), (1, .int wh), (2, .int k)]) hx hb dX3_pair_46 rfl hl (by decide) rfl (fun ls hl => ?_)
        refine lv_iload_n hx hb dX3_pair_47 rfl (lv_at hl 3 rfl) ?_
        refine lv_if_lt (tgt := 59) hx hb dX3_pair_48 (by decide) (fun h9 => ?_) (fun h9 => ?_)
        · skip
          exact thrI hx hb hl0 hown hts hlk hml hl.1 hw hT hS hte (by unfold prX; rw [if_neg h1, if_neg h2, if_pos h9]) (List.mem_of_getElem? (i := 1) rfl) (List.mem_of_getElem? (i := 2) rfl) (fun _ h => List.mem_cons_of_mem _ (List.mem_append_right _ h)) (List.mem_of_getElem? (i := 2) rfl) hS.1 dX3_pair_59 dX3_pair_62 dX3_pair_63 dX3_pair_65 dX3_pair_68 (Nat.le_of_ble_eq_true rfl) (Nat.le_of_ble_eq_true rfl) (Nat.le_of_ble_eq_true rfl) (Nat.le_of_ble_eq_true rfl) (Nat.le_of_ble_eq_true rfl) (Nat.le_of_ble_eq_true rfl) hz1 hz2
        · skip
          refine lv_iload_n hx hb dX3_pair_51 rfl (lv_at hl 3 rfl) ?_
          refine lv_aload_n hx hb dX3_pair_52 rfl (lv_at hl 0 rfl) ?_
          refine gf hx hb hown hts hw hT 5 ((ipS S).1) (show (ipS S).1 < 4 by omega) (ci := 2) rfl rfl (fun _ h => List.mem_cons_of_mem _ (List.mem_append_left _ (List.mem_append_right _ h))) 1 (by decide) (List.mem_of_getElem? (i := 6) rfl) (v := .int (psS S ((ipS S).1))) rfl dX3_pair_53 ?_
          refine lv_icmp_lt (tgt := 69) hx hb dX3_pair_56 (by decide) (fun h10 => ?_) (fun h10 => ?_)
          · skip
            refine lv_aload_n hx hb dX3_pair_69 rfl (lv_at hl 0 rfl) ?_
            refine lv_iload_n hx hb dX3_pair_70 rfl (lv_at hl 3 rfl) ?_
            refine cVi ⟨hx, hb, hml, hown, hts⟩ (c_codeAt l G S ((ipS S).1) (show (ipS S).1 < 4 by omega) k) (cwV 1 hts gX3_pair_X2_codeAt rfl rfl rfl (by decide +kernel) ⟨(Nat.le_of_ble_eq_true rfl), (Nat.le_of_ble_eq_true rfl)⟩) hw hT hS (rcv hw hT 5 ((ipS S).1) (show (ipS S).1 < 4 by omega) rfl rfl) (As := [.int k]) (rest := []) rfl hl.1 rfl (Nat.le_of_ble_eq_true rfl) dX3_pair_71 ⟨(Nat.le_of_ble_eq_true rfl), (Nat.le_of_ble_eq_true rfl)⟩ (fun H locs hw hS => ?_)
            exact rix hx hb hlk hr hw hS (by unfold prX; rw [if_neg h1, if_neg h2, if_neg h9, e9, if_pos h10]) (by rw [e9]) (vp_nar_int _) (Nat.le_of_ble_eq_true rfl) (Nat.le_of_ble_eq_true rfl) dX3_pair_74
          · skip
            exact thrI hx hb hl0 hown hts hlk hml hl.1 hw hT hS hte (by unfold prX; rw [if_neg h1, if_neg h2, if_neg h9, e9, if_neg h10]) (List.mem_of_getElem? (i := 1) rfl) (List.mem_of_getElem? (i := 2) rfl) (fun _ h => List.mem_cons_of_mem _ (List.mem_append_right _ h)) (List.mem_of_getElem? (i := 2) rfl) hS.1 dX3_pair_59 dX3_pair_62 dX3_pair_63 dX3_pair_65 dX3_pair_68 (Nat.le_of_ble_eq_true rfl) (Nat.le_of_ble_eq_true rfl) (Nat.le_of_ble_eq_true rfl) (Nat.le_of_ble_eq_true rfl) (Nat.le_of_ble_eq_true rfl) (Nat.le_of_ble_eq_true rfl) hz1 hz2
    · skip
      have h2 : (nI 2) < wh := Int32.not_le.mp h2
      exact thrI hx hb hl0 hown hts hlk hml hl.1 hw hT hS hte (by unfold prX; rw [if_neg h1, if_pos h2]) (List.mem_of_getElem? (i := 1) rfl) (List.mem_of_getElem? (i := 2) rfl) (fun _ h => List.mem_cons_of_mem _ (List.mem_append_right _ h)) (List.mem_of_getElem? (i := 1) rfl) hS.1 dX3_pair_9 dX3_pair_12 dX3_pair_13 dX3_pair_15 dX3_pair_18 (Nat.le_of_ble_eq_true rfl) (Nat.le_of_ble_eq_true rfl) (Nat.le_of_ble_eq_true rfl) (Nat.le_of_ble_eq_true rfl) (Nat.le_of_ble_eq_true rfl) (Nat.le_of_ble_eq_true rfl) hz1 hz2
def fzS (S : St) : St := nfU S (va_up (nfS S) 2 (nI 0))
theorem fz_c (S : St) : nfS (fzS S) 2 = nI 0 := by unfold fzS; rw [nf_nf, va_up_self]
theorem fn_c (S : St) (c b : Nat) (x : UInt32) : nfS (fnS S c b x) 2 = nI (c + 1) := by unfold fnS; rw [nf_nf, va_up_self]
def ovC (S : St) (mask : Int32) (b : Nat) : Bool := thS S b && (!(grS S b &&& mask == 0) && ovF (bxS S (2 * b + 3)) (bxS S 0))
def ofR (mask : Int32) : Nat → Nat → St → Nat → St
  | 0, _, S, _ => S
  | n + 1, b, S, c => if ovC S mask b = true then ofR mask n (b + 1) (fnS S c b FP.fconst0) (c + 1) else ofR mask n (b + 1) S c
def meC (S : St) (mask : Int32) (b : Nat) : Bool := thS S b && (!(grS S b &&& mask == 0) && !(fEq (enG (bxS S (2 * b + 3)) (bxS S 0) 3 0 FP.fconst0 FP.fconst1) 3212836864))
def meR (mask : Int32) : Nat → Nat → St → Nat → St
  | 0, _, S, _ => S
  | n + 1, b, S, c => if meC S mask b = true then meR mask n (b + 1) (fnS S c b (enG (bxS S (2 * b + 3)) (bxS S 0) 3 0 FP.fconst0 FP.fconst1)) (c + 1) else meR mask n (b + 1) S c
set_option maxRecDepth 100000 in
set_option maxHeartbeats 1000000 in
theorem c_overlapping (l : Launch) (G : Gm) (S : St) (hl0 : l.stackTraces = false) (mask : Int32) : Ti l yX3_overlapping wsX3_overlapping ({ frames := 7, cells := 1, slots := 6, locals := 102 } : Room) [.ref (g_ad G 0 0), .int mask] G S (padX S) S (nfS (ofR mask 512 0 (fzS S) 0) 2) (ofR mask 512 0 (fzS S) 0) := by
  refine entX (cc := cX3_overlapping) (maxL := 4) (ret := (some .int)) (by decide) rfl (Nat.le_of_ble_eq_true rfl) ?_
  intro p e s m below meth c ls C hw hT hS hte hl
  obtain ⟨hx, hb, hr, hml, hown, hts, hlk⟩ := C
  have hz1 := hw.2.2.2.2.1
  have hz2 := hw.2.2.2.2.2
  have hl : lv_has ls 4 [(0, .ref (g_ad G 0 0)), (1, .int mask)] := hl
  refine lv_aload_n hx hb dX3_overlapping_0 rfl (lv_at hl 0 rfl) ?_
  refine xVv ⟨hx, hb, hml, hown, hts⟩ (c_requirePadIsBox l G S hl0) (cwV 0 hts gX3_overlapping_X3_requirePadIsBox rfl rfl rfl (by decide +kernel) ⟨(Nat.le_of_ble_eq_true rfl), (Nat.le_of_ble_eq_true rfl)⟩) hw hT hS (rcv hw hT 0 0 (by decide) rfl rfl) (As := []) (rest := []) rfl hl.1 rfl (Nat.le_of_ble_eq_true rfl) dX3_overlapping_1 ⟨(Nat.le_of_ble_eq_true rfl), (Nat.le_of_ble_eq_true rfl)⟩ (fun E ce q9 H locs h1 hw hS hce hcv hcl => ?_) (fun H locs h1 hw hS => ?_)
  · skip
    exact xo hte hlk h1 hw hS hce hcv hcl (Nat.le_of_ble_eq_true rfl) (Nat.le_of_ble_eq_true rfl)
  refine lv_aload_n hx hb dX3_overlapping_4 rfl (lv_at hl 0 rfl) ?_
  refine lv_iconst (v := nI 0) hx hb dX3_overlapping_5 (by decide) ?_
  refine pf (S' := (nfU S (va_up (nfS S) 2 (nI 0)))) hx hb hown hts hw hT hS 0 0 (by decide) (ci := 3) rfl rfl (fun _ h => List.mem_cons_of_mem _ (List.mem_append_left _ (List.mem_append_left _ (List.mem_append_left _ (List.mem_append_right _ h))))) tyX3 tyX3_ok nmX3 10 (by decide) (List.mem_of_getElem? (i := 1) rfl) rfl (ty := .int) (by decide +kernel) (vp_nar_int _) rfl (Nat.le_of_ble_eq_true rfl) (mup_nf2 G S (nI 0)) dX3_overlapping_6 (fun H locs hw hS => ?_)
  refine lv_iconst (v := nI 0) hx hb dX3_overlapping_9 (by decide) ?_
  refine lv_istore_n (lv' := [(2, .int (nI 0)), (0, .ref (g_ad G 0 0)), (1, .int mask)]) hx hb dX3_overlapping_10 rfl hl (by decide) rfl (fun ls hl => ?_)
  have hw : wdM G (fzS S) H s := hw
  have LOOP : ∀ (n b : Nat) (S2 : St) (cn : Nat) (H : Heap) (locs : List Loc) (ls : Array Slot), b + n = 512 → (ofR mask n b S2 cn = ofR mask 512 0 (fzS S) 0) → (nfS S2 2 = nI cn) → (cn ≤ b) → (bxS S2 = bxS S) → wdM G S2 H s → va_S (g_A G) s.heap H locs → lv_has ls 4 [(2, .int (nI b)), (0, .ref (g_ad G 0 0)), (1, .int mask)] → W p l e ({ frames := 7, cells := 1, slots := 6, locals := 102 } : Room) s m ([.ref (g_ad G 0 0), .int mask] : List Value).toArray below meth c H locs 1 6 (vx_MQ below (Ki G (padX S) (nfS (ofR mask 512 0 (fzS S) 0) 2) (ofR mask 512 0 (fzS S) 0)) (Kx G (padX S) S) ([.ref (g_ad G 0 0), .int mask] : List Value).toArray s ({ frames := 7, cells := 1, slots := 6, locals := 102 } : Room).cells ({ frames := 7, cells := 1, slots := 6, locals := 102 } : Room).slots (g_A G)) (F0 m 11 ls []) := by
    intro n
    induction n with
    | zero =>
      intro b S2 cn H locs ls hn hq hcn hcb hbx hw hS hl
      obtain rfl : 512 = b := by omega
      refine lv_iload_n hx hb dX3_overlapping_11 rfl (lv_at hl 0 rfl) ?_
      refine lv_sipush (v := nI 512) hx hb dX3_overlapping_12 (by decide) ?_
      refine lv_icmp_ge (tgt := 67) hx hb dX3_overlapping_15 (by decide) (fun _ => ?_) (fun q => absurd (by decide) q)
      refine lv_aload_n hx hb dX3_overlapping_67 rfl (lv_at hl 1 rfl) ?_
      refine gf hx hb hown hts hw hT 0 0 (by decide) (ci := 3) rfl rfl (fun _ h => List.mem_cons_of_mem _ (List.mem_append_left _ (List.mem_append_left _ (List.mem_append_left _ (List.mem_append_right _ h))))) 10 (by decide) (List.mem_of_getElem? (i := 1) rfl) (v := .int (nfS S2 2)) rfl dX3_overlapping_68 ?_
      exact rix hx hb hlk hr (by rw [← hq]; exact hw) hS h1 (by rw [← hq]; rfl) (vp_nar_int _) (Nat.le_of_ble_eq_true rfl) (Nat.le_of_ble_eq_true rfl) dX3_overlapping_71
    | succ n ih =>
      intro b S2 cn H locs ls hn hq hcn hcb hbx hw hS hl
      have hb9 : b < 512 := by omega
      refine lv_iload_n hx hb dX3_overlapping_11 rfl (lv_at hl 0 rfl) ?_
      refine lv_sipush (v := nI 512) hx hb dX3_overlapping_12 (by decide) ?_
      refine lv_icmp_ge (tgt := 67) hx hb dX3_overlapping_15 (by decide) (fun q => absurd q (nI_ge hb9 (by decide))) (fun _ => ?_)
      refine lv_aload_n hx hb dX3_overlapping_18 rfl (lv_at hl 1 rfl) ?_
      refine gf hx hb hown hts hw hT 0 0 (by decide) (ci := 3) rfl rfl (fun _ h => List.mem_cons_of_mem _ (List.mem_append_left _ (List.mem_append_left _ (List.mem_append_left _ (List.mem_append_right _ h))))) 1 (by decide) (List.mem_of_getElem? (i := 2) rfl) (v := .ref (g_ad G 3 0)) rfl dX3_overlapping_19 ?_
      refine lv_iload_n hx hb dX3_overlapping_22 rfl (lv_at hl 0 rfl) ?_
      refine abl hx hb hw hT b (show b < 512 by omega) dX3_overlapping_23 ?_
      refine lv_astore_n (lv' := [(3, .ref (g_ad G 4 b)), (2, .int (nI b)), (0, .ref (g_ad G 0 0)), (1, .int mask)]) hx hb dX3_overlapping_24 rfl hl (by decide) rfl (fun ls hl => ?_)
      refine lv_aload_n hx hb dX3_overlapping_25 rfl (lv_at hl 0 rfl) ?_
      refine gf hx hb hown hts hw hT 4 b (show b < 512 by omega) (ci := 0) rfl rfl (fun _ h => List.mem_cons_of_mem _ (List.mem_append_left _ (List.mem_append_left _ (List.mem_append_right _ h)))) 4 (by decide) (List.mem_of_getElem? (i := 3) rfl) (v := .int (bI (thS S2 b))) rfl dX3_overlapping_26 ?_
      refine lv_if_eq (tgt := 61) hx hb dX3_overlapping_29 (by decide) (fun h4 => ?_) (fun h4 => ?_)
      · skip
        have h4 := bI_0.mp h4
        refine lv_iinc (v := nI (b + 1)) (lv' := [(2, .int (nI (b + 1))), (3, .ref (g_ad G 4 b)), (0, .ref (g_ad G 0 0)), (1, .int mask)]) hx hb dX3_overlapping_61 hl (k := 1) rfl (nI_add b 1) (by decide) rfl (fun ls hl => ?_)
        refine lv_goto (tgt := 11) hx hb dX3_overlapping_64 (by decide) ?_
        exact ih (b + 1) S2 cn H locs ls (by omega) (by rw [← hq, ofR, if_neg (by simp [ovC, h4])]) hcn (by omega) hbx hw hS (lv_sub hl [0, 2, 3] rfl)
      · skip
        have h4 := bI_n0.mp h4
        refine lv_aload_n hx hb dX3_overlapping_32 rfl (lv_at hl 0 rfl) ?_
        refine gf hx hb hown hts hw hT 4 b (show b < 512 by omega) (ci := 0) rfl rfl (fun _ h => List.mem_cons_of_mem _ (List.mem_append_left _ (List.mem_append_left _ (List.mem_append_right _ h)))) 2 (by decide) (List.mem_of_getElem? (i := 4) rfl) (v := .int (grS S2 b)) rfl dX3_overlapping_33 ?_
        refine lv_iload_n hx hb dX3_overlapping_36 rfl (lv_at hl 3 rfl) ?_
        refine lv_iand hx hb dX3_overlapping_37 ?_
        refine lv_if_eq (tgt := 61) hx hb dX3_overlapping_38 (by decide) (fun h5 => ?_) (fun h5 => ?_)
        · skip
          refine lv_iinc (v := nI (b + 1)) (lv' := [(2, .int (nI (b + 1))), (3, .ref (g_ad G 4 b)), (0, .ref (g_ad G 0 0)), (1, .int mask)]) hx hb dX3_overlapping_61 hl (k := 1) rfl (nI_add b 1) (by decide) rfl (fun ls hl => ?_)
          refine lv_goto (tgt := 11) hx hb dX3_overlapping_64 (by decide) ?_
          exact ih (b + 1) S2 cn H locs ls (by omega) (by rw [← hq, ofR, if_neg (by simp [ovC, h4, h5])]) hcn (by omega) hbx hw hS (lv_sub hl [0, 2, 3] rfl)
        · skip
          refine lv_aload_n hx hb dX3_overlapping_41 rfl (lv_at hl 0 rfl) ?_
          refine gf hx hb hown hts hw hT 4 b (show b < 512 by omega) (ci := 0) rfl rfl (fun _ h => List.mem_cons_of_mem _ (List.mem_append_left _ (List.mem_append_left _ (List.mem_append_right _ h)))) 1 (by decide) (List.mem_of_getElem? (i := 5) rfl) (v := .ref (g_ad G 1 (2 * b + 3))) rfl dX3_overlapping_42 ?_
          refine lv_aload_n hx hb dX3_overlapping_45 rfl (lv_at hl 2 rfl) ?_
          refine gf hx hb hown hts hw hT 0 0 (by decide) (ci := 3) rfl rfl (fun _ h => List.mem_cons_of_mem _ (List.mem_append_left _ (List.mem_append_left _ (List.mem_append_left _ (List.mem_append_right _ h))))) 0 (by decide) (List.mem_of_getElem? (i := 6) rfl) (v := .ref (g_ad G 1 0)) rfl dX3_overlapping_46 ?_
          refine cVi ⟨hx, hb, hml, hown, hts⟩ (c_overlaps l G S2 (2 * b + 3) (show 2 * b + 3 < 1026 by omega) 0 (by decide)) (cwV 1 hts gX3_overlapping_X1_overlaps rfl rfl rfl (by decide +kernel) ⟨(Nat.le_of_ble_eq_true rfl), (Nat.le_of_ble_eq_true rfl)⟩) hw hT hS (rcv hw hT 1 (2 * b + 3) (show 2 * b + 3 < 1026 by omega) rfl rfl) (As := [.ref (g_ad G 1 0)]) (rest := []) rfl hl.1 rfl (Nat.le_of_ble_eq_true rfl) dX3_overlapping_49 ⟨(Nat.le_of_ble_eq_true rfl), (Nat.le_of_ble_eq_true rfl)⟩ (fun H locs hw hS => ?_)
          refine lv_if_eq (tgt := 61) hx hb dX3_overlapping_52 (by decide) (fun h6 => ?_) (fun h6 => ?_)
          · skip
            have h6 := bI_0.mp h6
            refine lv_iinc (v := nI (b + 1)) (lv' := [(2, .int (nI (b + 1))), (3, .ref (g_ad G 4 b)), (0, .ref (g_ad G 0 0)), (1, .int mask)]) hx hb dX3_overlapping_61 hl (k := 1) rfl (nI_add b 1) (by decide) rfl (fun ls hl => ?_)
            refine lv_goto (tgt := 11) hx hb dX3_overlapping_64 (by decide) ?_
            exact ih (b + 1) S2 cn H locs ls (by omega) (by rw [← hq, ofR, if_neg (by simp [ovC, h4, h5, h6])]) hcn (by omega) hbx hw hS (lv_sub hl [0, 2, 3] rfl)
          · skip
            have h6 := bI_n0.mp h6
            refine lv_aload_n hx hb dX3_overlapping_55 rfl (lv_at hl 2 rfl) ?_
            refine lv_iload_n hx hb dX3_overlapping_56 rfl (lv_at hl 1 rfl) ?_
            refine lv_fconst0 hx hb dX3_overlapping_57 ?_
            refine cVv ⟨hx, hb, hml, hown, hts⟩ (c_appendFound l G S2 b FP.fconst0 cn hcn (by omega)) (cwV 2 hts gX3_overlapping_X3_appendFound rfl rfl rfl (by decide +kernel) ⟨(Nat.le_of_ble_eq_true rfl), (Nat.le_of_ble_eq_true rfl)⟩) hw hT hS (rcv hw hT 0 0 (by decide) rfl rfl) (As := [.int (nI b), .float FP.fconst0]) (rest := []) rfl hl.1 rfl (Nat.le_of_ble_eq_true rfl) dX3_overlapping_58 ⟨(Nat.le_of_ble_eq_true rfl), (Nat.le_of_ble_eq_true rfl)⟩ (fun H locs hw hS => ?_)
            refine lv_iinc (v := nI (b + 1)) (lv' := [(2, .int (nI (b + 1))), (3, .ref (g_ad G 4 b)), (0, .ref (g_ad G 0 0)), (1, .int mask)]) hx hb dX3_overlapping_61 hl (k := 1) rfl (nI_add b 1) (by decide) rfl (fun ls hl => ?_)
            refine lv_goto (tgt := 11) hx hb dX3_overlapping_64 (by decide) ?_
            exact ih (b + 1) ((fnS S2 cn b FP.fconst0)) (cn + 1) H locs ls (by omega) (by rw [← hq, ofR, if_pos (by simp [ovC, h4, h5, h6])]) (fn_c _ _ _ _) (by omega) hbx hw hS (lv_sub hl [0, 2, 3] rfl)
  exact LOOP 512 0 ((fzS S)) 0 _ _ ls (by omega) rfl (fz_c _) (by omega) rfl hw hS (lv_sub hl [0, 1, 2] rfl)
set_option maxRecDepth 100000 in
set_option maxHeartbeats 1000000 in
theorem c_meeting (l : Launch) (G : Gm) (S : St) (hp : Gb (bxS S 0)) (hwd : ∀ k, k < 512 → Wb (bxS S (2 * k + 3))) (mask : Int32) : Pi l yX3_meeting wsX3_meeting ({ frames := 1, cells := 0, slots := 0, locals := 30 } : Room) [.ref (g_ad G 0 0), .int mask] G S (nfS (meR mask 512 0 (fzS S) 0) 2) (meR mask 512 0 (fzS S) 0) := by
  refine ent (cc := cX3_meeting) (maxL := 5) (ret := (some .int)) (by decide) rfl (Nat.le_of_ble_eq_true rfl) ?_
  intro p e s m below meth c ls C hw hT hS hl
  obtain ⟨hx, hb, hr, hml, hown, hts, hlk⟩ := C
  have hl : lv_has ls 5 [(0, .ref (g_ad G 0 0)), (1, .int mask)] := hl
  refine lv_aload_n hx hb dX3_meeting_0 rfl (lv_at hl 0 rfl) ?_
  refine lv_iconst (v := nI 0) hx hb dX3_meeting_1 (by decide) ?_
  refine pf (S' := (nfU S (va_up (nfS S) 2 (nI 0)))) hx hb hown hts hw hT hS 0 0 (by decide) (ci := 3) rfl rfl (fun _ h => List.mem_cons_of_mem _ (List.mem_append_left _ (List.mem_append_left _ (List.mem_append_right _ h)))) tyX3 tyX3_ok nmX3 10 (by decide) (List.mem_of_getElem? (i := 1) rfl) rfl (ty := .int) (by decide +kernel) (vp_nar_int _) rfl (Nat.le_of_ble_eq_true rfl) (mup_nf2 G S (nI 0)) dX3_meeting_2 (fun H locs hw hS => ?_)
  refine lv_iconst (v := nI 0) hx hb dX3_meeting_5 (by decide) ?_
  refine lv_istore_n (lv' := [(2, .int (nI 0)), (0, .ref (g_ad G 0 0)), (1, .int mask)]) hx hb dX3_meeting_6 rfl hl (by decide) rfl (fun ls hl => ?_)
  have hw : wdM G (fzS S) H s := hw
  have LOOP : ∀ (n b : Nat) (S2 : St) (cn : Nat) (H : Heap) (locs : List Loc) (ls : Array Slot), b + n = 512 → (meR mask n b S2 cn = meR mask 512 0 (fzS S) 0) → (nfS S2 2 = nI cn) → (cn ≤ b) → (bxS S2 = bxS S) → wdM G S2 H s → va_S (g_A G) s.heap H locs → lv_has ls 5 [(2, .int (nI b)), (0, .ref (g_ad G 0 0)), (1, .int mask)] → W p l e ({ frames := 1, cells := 0, slots := 0, locals := 30 } : Room) s m ([.ref (g_ad G 0 0), .int mask] : List Value).toArray below meth c H locs 0 0 (MQ below (Qi G (nfS (meR mask 512 0 (fzS S) 0) 2) (meR mask 512 0 (fzS S) 0)) ([.ref (g_ad G 0 0), .int mask] : List Value).toArray s ({ frames := 1, cells := 0, slots := 0, locals := 30 } : Room).cells ({ frames := 1, cells := 0, slots := 0, locals := 30 } : Room).slots (g_A G)) (F0 m 7 ls []) := by
    intro n
    induction n with
    | zero =>
      intro b S2 cn H locs ls hn hq hcn hcb hbx hw hS hl
      obtain rfl : 512 = b := by omega
      refine lv_iload_n hx hb dX3_meeting_7 rfl (lv_at hl 0 rfl) ?_
      refine lv_sipush (v := nI 512) hx hb dX3_meeting_8 (by decide) ?_
      refine lv_icmp_ge (tgt := 71) hx hb dX3_meeting_11 (by decide) (fun _ => ?_) (fun q => absurd (by decide) q)
      refine lv_aload_n hx hb dX3_meeting_71 rfl (lv_at hl 1 rfl) ?_
      refine gf hx hb hown hts hw hT 0 0 (by decide) (ci := 3) rfl rfl (fun _ h => List.mem_cons_of_mem _ (List.mem_append_left _ (List.mem_append_left _ (List.mem_append_right _ h)))) 10 (by decide) (List.mem_of_getElem? (i := 1) rfl) (v := .int (nfS S2 2)) rfl dX3_meeting_72 ?_
      exact ri hx hb hlk hr (by rw [← hq]; exact hw) hS (by rw [← hq]; rfl) (vp_nar_int _) (Nat.le_of_ble_eq_true rfl) (Nat.le_of_ble_eq_true rfl) dX3_meeting_75
    | succ n ih =>
      intro b S2 cn H locs ls hn hq hcn hcb hbx hw hS hl
      have hb9 : b < 512 := by omega
      refine lv_iload_n hx hb dX3_meeting_7 rfl (lv_at hl 0 rfl) ?_
      refine lv_sipush (v := nI 512) hx hb dX3_meeting_8 (by decide) ?_
      refine lv_icmp_ge (tgt := 71) hx hb dX3_meeting_11 (by decide) (fun q => absurd q (nI_ge hb9 (by decide))) (fun _ => ?_)
      refine lv_aload_n hx hb dX3_meeting_14 rfl (lv_at hl 1 rfl) ?_
      refine gf hx hb hown hts hw hT 0 0 (by decide) (ci := 3) rfl rfl (fun _ h => List.mem_cons_of_mem _ (List.mem_append_left _ (List.mem_append_left _ (List.mem_append_right _ h)))) 1 (by decide) (List.mem_of_getElem? (i := 2) rfl) (v := .ref (g_ad G 3 0)) rfl dX3_meeting_15 ?_
      refine lv_iload_n hx hb dX3_meeting_18 rfl (lv_at hl 0 rfl) ?_
      refine abl hx hb hw hT b (show b < 512 by omega) dX3_meeting_19 ?_
      refine lv_astore_n (lv' := [(3, .ref (g_ad G 4 b)), (2, .int (nI b)), (0, .ref (g_ad G 0 0)), (1, .int mask)]) hx hb dX3_meeting_20 rfl hl (by decide) rfl (fun ls hl => ?_)
      refine lv_aload_n hx hb dX3_meeting_21 rfl (lv_at hl 0 rfl) ?_
      refine gf hx hb hown hts hw hT 4 b (show b < 512 by omega) (ci := 0) rfl rfl (fun _ h => List.mem_cons_of_mem _ (List.mem_append_left _ (List.mem_append_right _ h))) 4 (by decide) (List.mem_of_getElem? (i := 3) rfl) (v := .int (bI (thS S2 b))) rfl dX3_meeting_22 ?_
      refine lv_if_eq (tgt := 65) hx hb dX3_meeting_25 (by decide) (fun h3 => ?_) (fun h3 => ?_)
      · skip
        have h3 := bI_0.mp h3
        refine lv_iinc (v := nI (b + 1)) (lv' := [(2, .int (nI (b + 1))), (3, .ref (g_ad G 4 b)), (0, .ref (g_ad G 0 0)), (1, .int mask)]) hx hb dX3_meeting_65 hl (k := 1) rfl (nI_add b 1) (by decide) rfl (fun ls hl => ?_)
        refine lv_goto (tgt := 7) hx hb dX3_meeting_68 (by decide) ?_
        exact ih (b + 1) S2 cn H locs ls (by omega) (by rw [← hq, meR, if_neg (by simp [meC, h3])]) hcn (by omega) hbx hw hS (lv_sub hl [0, 2, 3] rfl)
      · skip
        have h3 := bI_n0.mp h3
        refine lv_aload_n hx hb dX3_meeting_28 rfl (lv_at hl 0 rfl) ?_
        refine gf hx hb hown hts hw hT 4 b (show b < 512 by omega) (ci := 0) rfl rfl (fun _ h => List.mem_cons_of_mem _ (List.mem_append_left _ (List.mem_append_right _ h))) 2 (by decide) (List.mem_of_getElem? (i := 4) rfl) (v := .int (grS S2 b)) rfl dX3_meeting_29 ?_
        refine lv_iload_n hx hb dX3_meeting_32 rfl (lv_at hl 3 rfl) ?_
        refine lv_iand hx hb dX3_meeting_33 ?_
        refine lv_if_eq (tgt := 65) hx hb dX3_meeting_34 (by decide) (fun h4 => ?_) (fun h4 => ?_)
        · skip
          refine lv_iinc (v := nI (b + 1)) (lv' := [(2, .int (nI (b + 1))), (3, .ref (g_ad G 4 b)), (0, .ref (g_ad G 0 0)), (1, .int mask)]) hx hb dX3_meeting_65 hl (k := 1) rfl (nI_add b 1) (by decide) rfl (fun ls hl => ?_)
          refine lv_goto (tgt := 7) hx hb dX3_meeting_68 (by decide) ?_
          exact ih (b + 1) S2 cn H locs ls (by omega) (by rw [← hq, meR, if_neg (by simp [meC, h3, h4])]) hcn (by omega) hbx hw hS (lv_sub hl [0, 2, 3] rfl)
        · skip
          refine lv_aload_n hx hb dX3_meeting_37 rfl (lv_at hl 0 rfl) ?_
          refine gf hx hb hown hts hw hT 4 b (show b < 512 by omega) (ci := 0) rfl rfl (fun _ h => List.mem_cons_of_mem _ (List.mem_append_left _ (List.mem_append_right _ h))) 1 (by decide) (List.mem_of_getElem? (i := 5) rfl) (v := .ref (g_ad G 1 (2 * b + 3))) rfl dX3_meeting_38 ?_
          refine lv_aload_n hx hb dX3_meeting_41 rfl (lv_at hl 2 rfl) ?_
          refine gf hx hb hown hts hw hT 0 0 (by decide) (ci := 3) rfl rfl (fun _ h => List.mem_cons_of_mem _ (List.mem_append_left _ (List.mem_append_left _ (List.mem_append_right _ h)))) 0 (by decide) (List.mem_of_getElem? (i := 6) rfl) (v := .ref (g_ad G 1 0)) rfl dX3_meeting_42 ?_
          refine cVf ⟨hx, hb, hml, hown, hts⟩ (c_enterOfLine l G S2 (2 * b + 3) (show 2 * b + 3 < 1026 by omega) 0 (by decide) (en_ok (by rw [hbx]; exact hwd b (by omega)) (by rw [hbx]; exact hp))) (cwV 1 hts gX3_meeting_X1_enterOfLine rfl rfl rfl (by decide +kernel) ⟨(Nat.le_of_ble_eq_true rfl), (Nat.le_of_ble_eq_true rfl)⟩) hw hT hS (rcv hw hT 1 (2 * b + 3) (show 2 * b + 3 < 1026 by omega) rfl rfl) (As := [.ref (g_ad G 1 0)]) (rest := []) rfl hl.1 rfl (Nat.le_of_ble_eq_true rfl) dX3_meeting_45 ⟨(Nat.le_of_ble_eq_true rfl), (Nat.le_of_ble_eq_true rfl)⟩ (fun H locs hw hS => ?_)
          refine lv_fstore (lv' := [(4, .float (enG (bxS S2 (2 * b + 3)) (bxS S2 0) 3 0 FP.fconst0 FP.fconst1)), (3, .ref (g_ad G 4 b)), (2, .int (nI b)), (0, .ref (g_ad G 0 0)), (1, .int mask)]) hx hb dX3_meeting_48 hl (by decide) rfl (fun ls hl => ?_)
          refine lv_fload hx hb dX3_meeting_50 (lv_at hl 0 rfl) ?_
          refine lv_ldcf (v := 3212836864) hx hb hown (hts _ (List.mem_of_getElem? (i := 7) rfl)) dX3_meeting_52 ?_
          refine fc_leq (x := enG (bxS S2 (2 * b + 3)) (bxS S2 0) 3 0 FP.fconst0 FP.fconst1) (y := 3212836864) (tgt := 65) hx hb dX3_meeting_54 dX3_meeting_55 (by decide) (fun h5 => ?_) (fun h5 => ?_)
          · skip
            refine lv_iinc (v := nI (b + 1)) (lv' := [(2, .int (nI (b + 1))), (4, .float (enG (bxS S2 (2 * b + 3)) (bxS S2 0) 3 0 FP.fconst0 FP.fconst1)), (3, .ref (g_ad G 4 b)), (0, .ref (g_ad G 0 0)), (1, .int mask)]) hx hb dX3_meeting_65 hl (k := 2) rfl (nI_add b 1) (by decide) rfl (fun ls hl => ?_)
            refine lv_goto (tgt := 7) hx hb dX3_meeting_68 (by decide) ?_
            exact ih (b + 1) S2 cn H locs ls (by omega) (by rw [← hq, meR, if_neg (by simp [meC, h3, h4, h5])]) hcn (by omega) hbx hw hS (lv_sub hl [0, 3, 4] rfl)
          · skip
            refine lv_aload_n hx hb dX3_meeting_58 rfl (lv_at hl 3 rfl) ?_
            refine lv_iload_n hx hb dX3_meeting_59 rfl (lv_at hl 2 rfl) ?_
            refine lv_fload hx hb dX3_meeting_60 (lv_at hl 0 rfl) ?_
            refine cVv ⟨hx, hb, hml, hown, hts⟩ (c_appendFound l G S2 b (enG (bxS S2 (2 * b + 3)) (bxS S2 0) 3 0 FP.fconst0 FP.fconst1) cn hcn (by omega)) (cwV 2 hts gX3_meeting_X3_appendFound rfl rfl rfl (by decide +kernel) ⟨(Nat.le_of_ble_eq_true rfl), (Nat.le_of_ble_eq_true rfl)⟩) hw hT hS (rcv hw hT 0 0 (by decide) rfl rfl) (As := [.int (nI b), .float (enG (bxS S2 (2 * b + 3)) (bxS S2 0) 3 0 FP.fconst0 FP.fconst1)]) (rest := []) rfl hl.1 rfl (Nat.le_of_ble_eq_true rfl) dX3_meeting_62 ⟨(Nat.le_of_ble_eq_true rfl), (Nat.le_of_ble_eq_true rfl)⟩ (fun H locs hw hS => ?_)
            refine lv_iinc (v := nI (b + 1)) (lv' := [(2, .int (nI (b + 1))), (4, .float (enG (bxS S2 (2 * b + 3)) (bxS S2 0) 3 0 FP.fconst0 FP.fconst1)), (3, .ref (g_ad G 4 b)), (0, .ref (g_ad G 0 0)), (1, .int mask)]) hx hb dX3_meeting_65 hl (k := 2) rfl (nI_add b 1) (by decide) rfl (fun ls hl => ?_)
            refine lv_goto (tgt := 7) hx hb dX3_meeting_68 (by decide) ?_
            exact ih (b + 1) ((fnS S2 cn b (enG (bxS S2 (2 * b + 3)) (bxS S2 0) 3 0 FP.fconst0 FP.fconst1))) (cn + 1) H locs ls (by omega) (by rw [← hq, meR, if_pos (by simp [meC, h3, h4, h5])]) (fn_c _ _ _ _) (by omega) hbx hw hS (lv_sub hl [0, 3, 4] rfl)
  exact LOOP 512 0 ((fzS S)) 0 _ _ ls (by omega) rfl (fz_c _) (by omega) rfl hw hS (lv_sub hl [0, 1, 2] rfl)
def nrB (f : Nat → UInt32) : Nat → Nat → Nat → Nat
  | 0, _, b => b
  | n + 1, i, b => nrB f n (i + 1) (if fLt (f i) (f b) = true then i else b)
def nrF (S : St) (c : Nat) : Int32 := if c = 0 then -1 else fbS S (nrB (ffS S) (c - 1) 1 0)
set_option maxRecDepth 100000 in
set_option maxHeartbeats 1000000 in
theorem c_nearest (l : Launch) (G : Gm) (S : St) (c9 : Nat) (hc : nfS S 2 = nI c9) (hc5 : c9 ≤ 512) : Pi l yX3_nearest wsX3_nearest ({ frames := 0, cells := 0, slots := 0, locals := 0 } : Room) [.ref (g_ad G 0 0)] G S (nrF S c9) S := by
  refine ent (cc := cX3_nearest) (maxL := 3) (ret := (some .int)) (by decide) rfl (Nat.le_of_ble_eq_true rfl) ?_
  intro p e s m below meth c ls C hw hT hS hl
  obtain ⟨hx, hb, hr, hml, hown, hts, hlk⟩ := C
  have hl : lv_has ls 3 [(0, .ref (g_ad G 0 0))] := hl
  refine lv_aload_n hx hb dX3_nearest_0 rfl (lv_at hl 0 rfl) ?_
  refine gf hx hb hown hts hw hT 0 0 (by decide) (ci := 3) rfl rfl (fun _ h => List.mem_cons_of_mem _ (List.mem_append_right _ h)) 10 (by decide) (List.mem_of_getElem? (i := 1) rfl) (v := .int (nfS S 2)) rfl dX3_nearest_1 ?_
  refine top_i (y := nI c9) hc ?_
  refine lv_if_ne (tgt := 9) hx hb dX3_nearest_4 (by decide) (fun h1 => ?_) (fun h1 => ?_)
  · skip
    have h1 : ¬ c9 = 0 := fun z => h1 ((nz_eq (by omega)).mpr z)
    refine lv_iconst (v := nI 0) hx hb dX3_nearest_9 (by decide) ?_
    refine lv_istore_n (lv' := [(1, .int (nI 0)), (0, .ref (g_ad G 0 0))]) hx hb dX3_nearest_10 rfl hl (by decide) rfl (fun ls hl => ?_)
    refine lv_iconst (v := nI 1) hx hb dX3_nearest_11 (by decide) ?_
    refine lv_istore_n (lv' := [(2, .int (nI 1)), (1, .int (nI 0)), (0, .ref (g_ad G 0 0))]) hx hb dX3_nearest_12 rfl hl (by decide) rfl (fun ls hl => ?_)
    have LOOP : ∀ (n i : Nat) (bs : Nat) (H : Heap) (locs : List Loc) (ls : Array Slot), i + n = c9 → (nrB (ffS S) n i bs = nrB (ffS S) (c9 - 1) 1 0) → (bs < c9) → wdM G S H s → va_S (g_A G) s.heap H locs → lv_has ls 3 [(2, .int (nI i)), (1, .int (nI bs)), (0, .ref (g_ad G 0 0))] → W p l e ({ frames := 0, cells := 0, slots := 0, locals := 0 } : Room) s m ([.ref (g_ad G 0 0)] : List Value).toArray below meth c H locs 0 0 (MQ below (Qi G (nrF S c9) S) ([.ref (g_ad G 0 0)] : List Value).toArray s ({ frames := 0, cells := 0, slots := 0, locals := 0 } : Room).cells ({ frames := 0, cells := 0, slots := 0, locals := 0 } : Room).slots (g_A G)) (F0 m 13 ls []) := by
      intro n
      induction n with
      | zero =>
        intro i bs H locs ls hn hq hbs hw hS hl
        obtain rfl : c9 = i := by omega
        refine lv_iload_n hx hb dX3_nearest_13 rfl (lv_at hl 0 rfl) ?_
        refine lv_aload_n hx hb dX3_nearest_14 rfl (lv_at hl 2 rfl) ?_
        refine gf hx hb hown hts hw hT 0 0 (by decide) (ci := 3) rfl rfl (fun _ h => List.mem_cons_of_mem _ (List.mem_append_right _ h)) 10 (by decide) (List.mem_of_getElem? (i := 1) rfl) (v := .int (nfS S 2)) rfl dX3_nearest_15 ?_
        refine top_i (y := nI c9) hc ?_
        refine lv_icmp_ge (tgt := 45) hx hb dX3_nearest_18 (by decide) (fun _ => ?_) (fun q => absurd (Int32.le_refl _) q)
        refine lv_aload_n hx hb dX3_nearest_45 rfl (lv_at hl 2 rfl) ?_
        refine gf hx hb hown hts hw hT 0 0 (by decide) (ci := 3) rfl rfl (fun _ h => List.mem_cons_of_mem _ (List.mem_append_right _ h)) 8 (by decide) (List.mem_of_getElem? (i := 3) rfl) (v := .ref (g_ad G 7 0)) rfl dX3_nearest_46 ?_
        refine lv_iload_n hx hb dX3_nearest_49 rfl (lv_at hl 1 rfl) ?_
        refine ail hx hb hw hT 7 0 (by decide) (f := fbS S) rfl bs (show bs < 512 by omega) (by decide) dX3_nearest_50 ?_
        exact ri hx hb hlk hr hw hS (by unfold nrF; rw [if_neg h1, ← hq]; rfl) (vp_nar_int _) (Nat.le_of_ble_eq_true rfl) (Nat.le_of_ble_eq_true rfl) dX3_nearest_51
      | succ n ih =>
        intro i bs H locs ls hn hq hbs hw hS hl
        have hi : i < c9 := by omega
        refine lv_iload_n hx hb dX3_nearest_13 rfl (lv_at hl 0 rfl) ?_
        refine lv_aload_n hx hb dX3_nearest_14 rfl (lv_at hl 2 rfl) ?_
        refine gf hx hb hown hts hw hT 0 0 (by decide) (ci := 3) rfl rfl (fun _ h => List.mem_cons_of_mem _ (List.mem_append_right _ h)) 10 (by decide) (List.mem_of_getElem? (i := 1) rfl) (v := .int (nfS S 2)) rfl dX3_nearest_15 ?_
        refine top_i (y := nI c9) hc ?_
        refine lv_icmp_ge (tgt := 45) hx hb dX3_nearest_18 (by decide) (fun q => absurd q (nI_ge hi (by omega))) (fun _ => ?_)
        refine lv_aload_n hx hb dX3_nearest_21 rfl (lv_at hl 2 rfl) ?_
        refine gf hx hb hown hts hw hT 0 0 (by decide) (ci := 3) rfl rfl (fun _ h => List.mem_cons_of_mem _ (List.mem_append_right _ h)) 9 (by decide) (List.mem_of_getElem? (i := 2) rfl) (v := .ref (g_ad G 8 0)) rfl dX3_nearest_22 ?_
        refine lv_iload_n hx hb dX3_nearest_25 rfl (lv_at hl 0 rfl) ?_
        refine afl hx hb hw hT 8 0 (by decide) (f := ffS S) rfl i (show i < 512 by omega) (by decide) dX3_nearest_26 ?_
        refine lv_aload_n hx hb dX3_nearest_27 rfl (lv_at hl 2 rfl) ?_
        refine gf hx hb hown hts hw hT 0 0 (by decide) (ci := 3) rfl rfl (fun _ h => List.mem_cons_of_mem _ (List.mem_append_right _ h)) 9 (by decide) (List.mem_of_getElem? (i := 2) rfl) (v := .ref (g_ad G 8 0)) rfl dX3_nearest_28 ?_
        refine lv_iload_n hx hb dX3_nearest_31 rfl (lv_at hl 1 rfl) ?_
        refine afl hx hb hw hT 8 0 (by decide) (f := ffS S) rfl bs (show bs < 512 by omega) (by decide) dX3_nearest_32 ?_
        refine fc_gge (x := ffS S i) (y := ffS S bs) (tgt := 39) hx hb dX3_nearest_33 dX3_nearest_34 (by decide) (fun h4 => ?_) (fun h4 => ?_)
        · skip
          refine lv_iinc (v := nI (i + 1)) (lv' := [(2, .int (nI (i + 1))), (1, .int (nI bs)), (0, .ref (g_ad G 0 0))]) hx hb dX3_nearest_39 hl (k := 0) rfl (nI_add i 1) (by decide) rfl (fun ls hl => ?_)
          refine lv_goto (tgt := 13) hx hb dX3_nearest_42 (by decide) ?_
          exact ih (i + 1) bs H locs ls (by omega) (by rw [← hq, nrB, if_neg (by rw [h4]; decide)]) (by omega) hw hS (lv_sub hl [0, 1, 2] rfl)
        · skip
          refine lv_iload_n hx hb dX3_nearest_37 rfl (lv_at hl 0 rfl) ?_
          refine lv_istore_n (lv' := [(1, .int (nI i)), (2, .int (nI i)), (0, .ref (g_ad G 0 0))]) hx hb dX3_nearest_38 rfl hl (by decide) rfl (fun ls hl => ?_)
          refine lv_iinc (v := nI (i + 1)) (lv' := [(2, .int (nI (i + 1))), (1, .int (nI i)), (0, .ref (g_ad G 0 0))]) hx hb dX3_nearest_39 hl (k := 1) rfl (nI_add i 1) (by decide) rfl (fun ls hl => ?_)
          refine lv_goto (tgt := 13) hx hb dX3_nearest_42 (by decide) ?_
          exact ih (i + 1) i H locs ls (by omega) (by rw [← hq, nrB, if_pos h4]) (by omega) hw hS (lv_sub hl [0, 1, 2] rfl)
    exact LOOP (c9 - 1) 1 0 _ _ ls (by omega) rfl (by omega) hw hS (lv_sub hl [0, 1, 2] rfl)
  · skip
    have h1 : c9 = 0 := (nz_eq (by omega)).mp h1
    refine lv_iconst (v := (-1)) hx hb dX3_nearest_7 (by decide) ?_
    exact ri hx hb hlk hr hw hS (by unfold nrF; rw [if_pos h1]) (vp_nar_int _) (Nat.le_of_ble_eq_true rfl) (Nat.le_of_ble_eq_true rfl) dX3_nearest_8
