/-! The model: overlapping, enters, meeting -/
def fzM (S : St) : St := mnU S (va_up (mnS S) 2 (nI 0))
def fnA (S : St) (c b : Nat) : St := mIU S (va_up (mIS S) 6 (va_up (mIS S 6) c (nI b)))
def fnB (S : St) (c b : Nat) (x : UInt32) : St := mFU (fnA S c b) (va_up (mFS (fnA S c b)) 3 (va_up (mFS S 3) c x))
def fnM (S : St) (c b : Nat) (x : UInt32) : St := mnU (fnB S c b x) (va_up (mnS (fnB S c b x)) 2 (nI (c + 1)))
theorem fzM_c (S : St) : mnS (fzM S) 2 = nI 0 := rfl
theorem fnM_c (S : St) (c b : Nat) (x : UInt32) : mnS (fnM S c b x) 2 = nI (c + 1) := rfl
theorem fnM_f (S : St) (c b : Nat) (x : UInt32) {j : Nat} (h : j ≠ 3) : mFS (fnM S c b x) j = mFS S j := by
  show va_up (mFS S) 3 _ j = _
  rw [va_up_ne _ _ h]
def olB (S : St) (mask : Int32) (b : Nat) : Bool := (((mZS S 0 b && !(mIS S 0 b &&& mask == 0)) && (fLe (mFS S 2 (6 * b + 0)) (mFS S 0 3) && fLe (mFS S 0 0) (mFS S 2 (6 * b + 3 + 0)))) && (fLe (mFS S 2 (6 * b + 1)) (mFS S 0 4) && fLe (mFS S 0 1) (mFS S 2 (6 * b + 3 + 1)))) && (fLe (mFS S 2 (6 * b + 2)) (mFS S 0 5) && fLe (mFS S 0 2) (mFS S 2 (6 * b + 3 + 2)))
def olR (mask : Int32) : Nat → Nat → St → Nat → St
  | 0, _, S, _ => S
  | n + 1, b, S, c => if olB S mask b = true then olR mask n (b + 1) (fnM S c b FP.fconst0) (c + 1) else olR mask n (b + 1) S c
def olMS (S : St) (mask : Int32) : St := if (pbF (mFS S 0) && true) = true then olR mask 512 0 (fzM (okS S)) 0 else gsS S (pbF (mFS S 0)) true
def olMI (S : St) (mask : Int32) : Int32 := if (pbF (mFS S 0) && true) = true then mnS (olR mask 512 0 (fzM (okS S)) 0) 2 else nI 0
def nD (g : Nat → UInt32) (i : Nat) : UInt32 := FP.fsub (g (3 + i)) (g i)
def nA (w g : Nat → UInt32) (b i : Nat) : UInt32 := FP.fdiv (FP.fsub (w (6 * b + i)) (g i)) (FP.fsub (g (3 + i)) (g i))
def nB (w g : Nat → UInt32) (b i : Nat) : UInt32 := FP.fdiv (FP.fsub (w (6 * b + 3 + i)) (g i)) (FP.fsub (g (3 + i)) (g i))
def nN (w g : Nat → UInt32) (b : Nat) : Prop := ∀ i, i < 3 → vf_n32 (FP.fsub (g (3 + i)) (g i)) ∧ vf_n32 (FP.fsub (w (6 * b + i)) (g i)) ∧ vf_n32 (FP.fsub (w (6 * b + 3 + i)) (g i)) ∧ (fEq (FP.fsub (g (3 + i)) (g i)) FP.fconst0 = false → vf_n32 (nA w g b i) ∧ vf_n32 (nB w g b i))
def eR (w g : Nat → UInt32) (b : Nat) : Nat → Nat → UInt32 → UInt32 → Bool → UInt32
  | 0, _, en, lv, ok => if (ok && fLe en lv) = true then en else FP.fconst2
  | n + 1, i, en, lv, ok => if fEq (nD g i) FP.fconst0 = true then eR w g b n (i + 1) en lv (ok && (fGe (g i) (w (6 * b + i)) && fLe (g i) (w (6 * b + 3 + i))))
    else eR w g b n (i + 1) (if fGt (if fGt (nA w g b i) (nB w g b i) = true then nB w g b i else nA w g b i) en = true then (if fGt (nA w g b i) (nB w g b i) = true then nB w g b i else nA w g b i) else en) (if fLt (if fGt (nA w g b i) (nB w g b i) = true then nA w g b i else nB w g b i) lv = true then (if fGt (nA w g b i) (nB w g b i) = true then nA w g b i else nB w g b i) else lv) ok
theorem eR_z {w g : Nat → UInt32} {b n i : Nat} {en lv : UInt32} {ok : Bool} (h : fEq (FP.fsub (g (3 + i)) (g i)) FP.fconst0 = true) : eR w g b (n + 1) i en lv ok = eR w g b n (i + 1) en lv (ok && (fGe (g i) (w (6 * b + i)) && fLe (g i) (w (6 * b + 3 + i)))) := by
  rw [eR]; exact if_pos h
theorem eR_n {w g : Nat → UInt32} {b n i : Nat} {en lv : UInt32} {ok : Bool} (h : fEq (FP.fsub (g (3 + i)) (g i)) FP.fconst0 = false) : eR w g b (n + 1) i en lv ok = eR w g b n (i + 1) (if fGt (if fGt (nA w g b i) (nB w g b i) = true then nB w g b i else nA w g b i) en = true then (if fGt (nA w g b i) (nB w g b i) = true then nB w g b i else nA w g b i) else en) (if fLt (if fGt (nA w g b i) (nB w g b i) = true then nA w g b i else nB w g b i) lv = true then (if fGt (nA w g b i) (nB w g b i) = true then nA w g b i else nB w g b i) else lv) ok := by
  rw [eR]; exact if_neg (by unfold nD; rw [h]; decide)
def enM (S : St) (b : Nat) : UInt32 := eR (mFS S 2) (mFS S 0) b 3 0 FP.fconst0 FP.fconst1 true
def mtX (S : St) (mask : Int32) (b : Nat) : UInt32 := if (mZS S 0 b && !(mIS S 0 b &&& mask == 0)) = true then enM S b else FP.fconst2
def meM (mask : Int32) : Nat → Nat → St → Nat → St
  | 0, _, S, _ => S
  | n + 1, b, S, c => if fLe (mtX S mask b) FP.fconst1 = true then meM mask n (b + 1) (fnM S c b (mtX S mask b)) (c + 1) else meM mask n (b + 1) S c
set_option maxRecDepth 100000 in
set_option maxHeartbeats 1000000 in
theorem m_overlapping (l : Launch) (G : Gm) (S : St) (mask : Int32) : Pi l yX4_overlapping wsX4_overlapping ({ frames := 1, cells := 0, slots := 0, locals := 22 } : Room) [.ref (g_ad G 9 0), .int mask] G S (olMI S mask) (olMS S mask) := by
  refine ent (cc := cX4_overlapping) (maxL := 5) (ret := (some .int)) (by decide) rfl (Nat.le_of_ble_eq_true rfl) ?_
  intro p e s m below meth c ls C hw hT hS hl
  obtain ⟨hx, hb, hr, hml, hown, hts, hlk⟩ := C
  have hl : lv_has ls 5 [(0, .ref (g_ad G 9 0)), (1, .int mask)] := hl
  refine lv_aload_n hx hb dX4_overlapping_0 rfl (lv_at hl 0 rfl) ?_
  refine lv_aload_n hx hb dX4_overlapping_1 rfl (lv_at hl 0 rfl) ?_
  refine cVi ⟨hx, hb, hml, hown, hts⟩ (m_padIsBox l G S) (cwV 0 hts gX4_overlapping_X4_padIsBox rfl rfl rfl (by decide +kernel) ⟨(Nat.le_of_ble_eq_true rfl), (Nat.le_of_ble_eq_true rfl)⟩) hw hT hS (rcv hw hT 9 0 (by decide) rfl rfl) (As := []) (rest := [.ref (g_ad G 9 0)]) rfl hl.1 rfl (Nat.le_of_ble_eq_true rfl) dX4_overlapping_2 ⟨(Nat.le_of_ble_eq_true rfl), (Nat.le_of_ble_eq_true rfl)⟩ (fun H locs hw hS => ?_)
  refine lv_iconst (v := nI 1) hx hb dX4_overlapping_5 (by decide) ?_
  refine top_i (y := bI true) (by decide) ?_
  refine cVi ⟨hx, hb, hml, hown, hts⟩ (m_goes l G S (pbF (mFS S 0)) true) (cwV 2 hts gX4_overlapping_X4_goes rfl rfl rfl (by decide +kernel) ⟨(Nat.le_of_ble_eq_true rfl), (Nat.le_of_ble_eq_true rfl)⟩) hw hT hS (rcv hw hT 9 0 (by decide) rfl rfl) (As := [.int (bI (pbF (mFS S 0))), .int (bI true)]) (rest := []) rfl hl.1 rfl (Nat.le_of_ble_eq_true rfl) dX4_overlapping_6 ⟨(Nat.le_of_ble_eq_true rfl), (Nat.le_of_ble_eq_true rfl)⟩ (fun H locs hw hS => ?_)
  refine lv_if_ne (tgt := 14) hx hb dX4_overlapping_9 (by decide) (fun h1 => ?_) (fun h1 => ?_)
  · skip
    have h1 := bI_n0.mp h1
    replace hw : wdM G (okS S) H s := by rw [gs_ok h1] at hw; exact hw
    refine lv_aload_n hx hb dX4_overlapping_14 rfl (lv_at hl 0 rfl) ?_
    refine lv_iconst (v := nI 0) hx hb dX4_overlapping_15 (by decide) ?_
    refine pf (S' := (mnU (okS S) (va_up (mnS (okS S)) 2 (nI 0)))) hx hb hown hts hw hT hS 9 0 (by decide) (ci := 4) rfl rfl (fun _ h => List.mem_cons_of_mem _ (List.mem_append_right _ h)) tyX4 tyX4_ok nmX4 13 (by decide) (List.mem_of_getElem? (i := 1) rfl) rfl (ty := .int) (by decide +kernel) (vp_nar_int _) rfl (Nat.le_of_ble_eq_true rfl) (mup_mn2 G (okS S) (nI 0)) dX4_overlapping_16 (fun H locs hw hS => ?_)
    have hw : wdM G (fzM (okS S)) H s := hw
    refine lv_iconst (v := nI 0) hx hb dX4_overlapping_19 (by decide) ?_
    refine lv_istore_n (lv' := [(2, .int (nI 0)), (0, .ref (g_ad G 9 0)), (1, .int mask)]) hx hb dX4_overlapping_20 rfl hl (by decide) rfl (fun ls hl => ?_)
    have LOOP : ∀ (n b : Nat) (S2 : St) (cn : Nat) (H : Heap) (locs : List Loc) (ls : Array Slot), b + n = 512 → (olR mask n b S2 cn = olR mask 512 0 (fzM (okS S)) 0) → (mnS S2 2 = nI cn) → (cn ≤ b) → wdM G S2 H s → va_S (g_A G) s.heap H locs → lv_has ls 5 [(2, .int (nI b)), (0, .ref (g_ad G 9 0)), (1, .int mask)] → W p l e ({ frames := 1, cells := 0, slots := 0, locals := 22 } : Room) s m ([.ref (g_ad G 9 0), .int mask] : List Value).toArray below meth c H locs 0 0 (MQ below (Qi G (olMI S mask) (olMS S mask)) ([.ref (g_ad G 9 0), .int mask] : List Value).toArray s ({ frames := 1, cells := 0, slots := 0, locals := 22 } : Room).cells ({ frames := 1, cells := 0, slots := 0, locals := 22 } : Room).slots (g_A G)) (F0 m 21 ls []) := by
      intro n
      induction n with
      | zero =>
        intro b S2 cn H locs ls hn hq hcn hcb hw hS hl
        obtain rfl : 512 = b := by omega
        refine lv_iload_n hx hb dX4_overlapping_21 rfl (lv_at hl 0 rfl) ?_
        refine lv_sipush (v := nI 512) hx hb dX4_overlapping_22 (by decide) ?_
        refine lv_icmp_ge (tgt := 169) hx hb dX4_overlapping_25 (by decide) (fun _ => ?_) (fun q => absurd (by decide) q)
        refine lv_aload_n hx hb dX4_overlapping_169 rfl (lv_at hl 1 rfl) ?_
        refine gf hx hb hown hts hw hT 9 0 (by decide) (ci := 4) rfl rfl (fun _ h => List.mem_cons_of_mem _ (List.mem_append_right _ h)) 13 (by decide) (List.mem_of_getElem? (i := 1) rfl) (v := .int (mnS S2 2)) rfl dX4_overlapping_170 ?_
        refine top_i (y := nI cn) hcn ?_
        exact ri hx hb hlk hr (by unfold olMS; rw [if_pos h1, ← hq]; exact hw) hS (by unfold olMI; rw [if_pos h1, ← hq]; exact hcn.symm) (vp_nar_int _) (Nat.le_of_ble_eq_true rfl) (Nat.le_of_ble_eq_true rfl) dX4_overlapping_173
      | succ n ih =>
        intro b S2 cn H locs ls hn hq hcn hcb hw hS hl
        have hb9 : b < 512 := by omega
        refine lv_iload_n hx hb dX4_overlapping_21 rfl (lv_at hl 0 rfl) ?_
        refine lv_sipush (v := nI 512) hx hb dX4_overlapping_22 (by decide) ?_
        refine lv_icmp_ge (tgt := 169) hx hb dX4_overlapping_25 (by decide) (fun q => absurd q (nI_ge hb9 (by decide))) (fun _ => ?_)
        have K4 : ∀ (b9 : Bool) (H : Heap) (locs : List Loc), b9 = (mZS S2 0 b && !(mIS S2 0 b &&& mask == 0)) → wdM G S2 H s → va_S (g_A G) s.heap H locs → W p l e ({ frames := 1, cells := 0, slots := 0, locals := 22 } : Room) s m ([.ref (g_ad G 9 0), .int mask] : List Value).toArray below meth c H locs 0 0 (MQ below (Qi G (olMI S mask) (olMS S mask)) ([.ref (g_ad G 9 0), .int mask] : List Value).toArray s ({ frames := 1, cells := 0, slots := 0, locals := 22 } : Room).cells ({ frames := 1, cells := 0, slots := 0, locals := 22 } : Room).slots (g_A G)) (F0 m 53 ls [.int (bI b9)]) := by
          intro b9 H locs hb9 hw hS
          subst hb9
          refine lv_istore_n (lv' := [(3, .int (bI (mZS S2 0 b && !(mIS S2 0 b &&& mask == 0)))), (2, .int (nI b)), (0, .ref (g_ad G 9 0)), (1, .int mask)]) hx hb dX4_overlapping_53 rfl hl (by decide) rfl (fun ls hl => ?_)
          refine lv_iconst (v := nI 0) hx hb dX4_overlapping_54 (by decide) ?_
          refine lv_istore (lv' := [(4, .int (nI 0)), (3, .int (bI (mZS S2 0 b && !(mIS S2 0 b &&& mask == 0)))), (2, .int (nI b)), (0, .ref (g_ad G 9 0)), (1, .int mask)]) hx hb dX4_overlapping_55 hl (by decide) rfl (fun ls hl => ?_)
          refine lv_iload hx hb dX4_overlapping_57 (lv_at hl 0 rfl) ?_
          refine lv_iconst (v := nI 3) hx hb dX4_overlapping_59 (by decide) ?_
          refine lv_icmp_ge (tgt := 129) hx hb dX4_overlapping_60 (by decide) (fun q => absurd q (by decide)) (fun _ => ?_)
          have K6 : ∀ (b9 : Bool) (H : Heap) (locs : List Loc), b9 = ((mZS S2 0 b && !(mIS S2 0 b &&& mask == 0)) && (fLe (mFS S2 2 (6 * b + 0)) (mFS S2 0 3) && fLe (mFS S2 0 0) (mFS S2 2 (6 * b + 3 + 0)))) → wdM G S2 H s → va_S (g_A G) s.heap H locs → W p l e ({ frames := 1, cells := 0, slots := 0, locals := 22 } : Room) s m ([.ref (g_ad G 9 0), .int mask] : List Value).toArray below meth c H locs 0 0 (MQ below (Qi G (olMI S mask) (olMS S mask)) ([.ref (g_ad G 9 0), .int mask] : List Value).toArray s ({ frames := 1, cells := 0, slots := 0, locals := 22 } : Room).cells ({ frames := 1, cells := 0, slots := 0, locals := 22 } : Room).slots (g_A G)) (F0 m 122 ls [.int (bI b9)]) := by
            intro b9 H locs hb9 hw hS
            subst hb9
            refine lv_istore_n (lv' := [(3, .int (bI ((mZS S2 0 b && !(mIS S2 0 b &&& mask == 0)) && (fLe (mFS S2 2 (6 * b + 0)) (mFS S2 0 3) && fLe (mFS S2 0 0) (mFS S2 2 (6 * b + 3 + 0)))))), (4, .int (nI 0)), (2, .int (nI b)), (0, .ref (g_ad G 9 0)), (1, .int mask)]) hx hb dX4_overlapping_122 rfl hl (by decide) rfl (fun ls hl => ?_)
            refine lv_iinc (v := nI 1) (lv' := [(4, .int (nI 1)), (3, .int (bI ((mZS S2 0 b && !(mIS S2 0 b &&& mask == 0)) && (fLe (mFS S2 2 (6 * b + 0)) (mFS S2 0 3) && fLe (mFS S2 0 0) (mFS S2 2 (6 * b + 3 + 0)))))), (2, .int (nI b)), (0, .ref (g_ad G 9 0)), (1, .int mask)]) hx hb dX4_overlapping_123 hl (k := 1) rfl (by decide) (by decide) rfl (fun ls hl => ?_)
            refine lv_goto (tgt := 57) hx hb dX4_overlapping_126 (by decide) ?_
            refine lv_iload hx hb dX4_overlapping_57 (lv_at hl 0 rfl) ?_
            refine lv_iconst (v := nI 3) hx hb dX4_overlapping_59 (by decide) ?_
            refine lv_icmp_ge (tgt := 129) hx hb dX4_overlapping_60 (by decide) (fun q => absurd q (by decide)) (fun _ => ?_)
            have K8 : ∀ (b9 : Bool) (H : Heap) (locs : List Loc), b9 = (((mZS S2 0 b && !(mIS S2 0 b &&& mask == 0)) && (fLe (mFS S2 2 (6 * b + 0)) (mFS S2 0 3) && fLe (mFS S2 0 0) (mFS S2 2 (6 * b + 3 + 0)))) && (fLe (mFS S2 2 (6 * b + 1)) (mFS S2 0 4) && fLe (mFS S2 0 1) (mFS S2 2 (6 * b + 3 + 1)))) → wdM G S2 H s → va_S (g_A G) s.heap H locs → W p l e ({ frames := 1, cells := 0, slots := 0, locals := 22 } : Room) s m ([.ref (g_ad G 9 0), .int mask] : List Value).toArray below meth c H locs 0 0 (MQ below (Qi G (olMI S mask) (olMS S mask)) ([.ref (g_ad G 9 0), .int mask] : List Value).toArray s ({ frames := 1, cells := 0, slots := 0, locals := 22 } : Room).cells ({ frames := 1, cells := 0, slots := 0, locals := 22 } : Room).slots (g_A G)) (F0 m 122 ls [.int (bI b9)]) := by
              intro b9 H locs hb9 hw hS
              subst hb9
              refine lv_istore_n (lv' := [(3, .int (bI (((mZS S2 0 b && !(mIS S2 0 b &&& mask == 0)) && (fLe (mFS S2 2 (6 * b + 0)) (mFS S2 0 3) && fLe (mFS S2 0 0) (mFS S2 2 (6 * b + 3 + 0)))) && (fLe (mFS S2 2 (6 * b + 1)) (mFS S2 0 4) && fLe (mFS S2 0 1) (mFS S2 2 (6 * b + 3 + 1)))))), (4, .int (nI 1)), (2, .int (nI b)), (0, .ref (g_ad G 9 0)), (1, .int mask)]) hx hb dX4_overlapping_122 rfl hl (by decide) rfl (fun ls hl => ?_)
              refine lv_iinc (v := nI 2) (lv' := [(4, .int (nI 2)), (3, .int (bI (((mZS S2 0 b && !(mIS S2 0 b &&& mask == 0)) && (fLe (mFS S2 2 (6 * b + 0)) (mFS S2 0 3) && fLe (mFS S2 0 0) (mFS S2 2 (6 * b + 3 + 0)))) && (fLe (mFS S2 2 (6 * b + 1)) (mFS S2 0 4) && fLe (mFS S2 0 1) (mFS S2 2 (6 * b + 3 + 1)))))), (2, .int (nI b)), (0, .ref (g_ad G 9 0)), (1, .int mask)]) hx hb dX4_overlapping_123 hl (k := 1) rfl (by decide) (by decide) rfl (fun ls hl => ?_)
              refine lv_goto (tgt := 57) hx hb dX4_overlapping_126 (by decide) ?_
              refine lv_iload hx hb dX4_overlapping_57 (lv_at hl 0 rfl) ?_
              refine lv_iconst (v := nI 3) hx hb dX4_overlapping_59 (by decide) ?_
              refine lv_icmp_ge (tgt := 129) hx hb dX4_overlapping_60 (by decide) (fun q => absurd q (by decide)) (fun _ => ?_)
              have K10 : ∀ (b9 : Bool) (H : Heap) (locs : List Loc), b9 = ((((mZS S2 0 b && !(mIS S2 0 b &&& mask == 0)) && (fLe (mFS S2 2 (6 * b + 0)) (mFS S2 0 3) && fLe (mFS S2 0 0) (mFS S2 2 (6 * b + 3 + 0)))) && (fLe (mFS S2 2 (6 * b + 1)) (mFS S2 0 4) && fLe (mFS S2 0 1) (mFS S2 2 (6 * b + 3 + 1)))) && (fLe (mFS S2 2 (6 * b + 2)) (mFS S2 0 5) && fLe (mFS S2 0 2) (mFS S2 2 (6 * b + 3 + 2)))) → wdM G S2 H s → va_S (g_A G) s.heap H locs → W p l e ({ frames := 1, cells := 0, slots := 0, locals := 22 } : Room) s m ([.ref (g_ad G 9 0), .int mask] : List Value).toArray below meth c H locs 0 0 (MQ below (Qi G (olMI S mask) (olMS S mask)) ([.ref (g_ad G 9 0), .int mask] : List Value).toArray s ({ frames := 1, cells := 0, slots := 0, locals := 22 } : Room).cells ({ frames := 1, cells := 0, slots := 0, locals := 22 } : Room).slots (g_A G)) (F0 m 122 ls [.int (bI b9)]) := by
                intro b9 H locs hb9 hw hS
                subst hb9
                refine lv_istore_n (lv' := [(3, .int (bI ((((mZS S2 0 b && !(mIS S2 0 b &&& mask == 0)) && (fLe (mFS S2 2 (6 * b + 0)) (mFS S2 0 3) && fLe (mFS S2 0 0) (mFS S2 2 (6 * b + 3 + 0)))) && (fLe (mFS S2 2 (6 * b + 1)) (mFS S2 0 4) && fLe (mFS S2 0 1) (mFS S2 2 (6 * b + 3 + 1)))) && (fLe (mFS S2 2 (6 * b + 2)) (mFS S2 0 5) && fLe (mFS S2 0 2) (mFS S2 2 (6 * b + 3 + 2)))))), (4, .int (nI 2)), (2, .int (nI b)), (0, .ref (g_ad G 9 0)), (1, .int mask)]) hx hb dX4_overlapping_122 rfl hl (by decide) rfl (fun ls hl => ?_)
                refine lv_iinc (v := nI 3) (lv' := [(4, .int (nI 3)), (3, .int (bI ((((mZS S2 0 b && !(mIS S2 0 b &&& mask == 0)) && (fLe (mFS S2 2 (6 * b + 0)) (mFS S2 0 3) && fLe (mFS S2 0 0) (mFS S2 2 (6 * b + 3 + 0)))) && (fLe (mFS S2 2 (6 * b + 1)) (mFS S2 0 4) && fLe (mFS S2 0 1) (mFS S2 2 (6 * b + 3 + 1)))) && (fLe (mFS S2 2 (6 * b + 2)) (mFS S2 0 5) && fLe (mFS S2 0 2) (mFS S2 2 (6 * b + 3 + 2)))))), (2, .int (nI b)), (0, .ref (g_ad G 9 0)), (1, .int mask)]) hx hb dX4_overlapping_123 hl (k := 1) rfl (by decide) (by decide) rfl (fun ls hl => ?_)
                refine lv_goto (tgt := 57) hx hb dX4_overlapping_126 (by decide) ?_
                refine lv_iload hx hb dX4_overlapping_57 (lv_at hl 0 rfl) ?_
                refine lv_iconst (v := nI 3) hx hb dX4_overlapping_59 (by decide) ?_
                refine lv_icmp_ge (tgt := 129) hx hb dX4_overlapping_60 (by decide) (fun _ => ?_) (fun q => absurd (by decide) q)
                refine lv_iload_n hx hb dX4_overlapping_129 rfl (lv_at hl 1 rfl) ?_
                refine lv_if_eq (tgt := 163) hx hb dX4_overlapping_130 (by decide) (fun h12 => ?_) (fun h12 => ?_)
                · skip
                  have h12 := bI_0.mp h12
                  refine lv_iinc (v := nI (b + 1)) (lv' := [(2, .int (nI (b + 1))), (4, .int (nI 3)), (3, .int (bI ((((mZS S2 0 b && !(mIS S2 0 b &&& mask == 0)) && (fLe (mFS S2 2 (6 * b + 0)) (mFS S2 0 3) && fLe (mFS S2 0 0) (mFS S2 2 (6 * b + 3 + 0)))) && (fLe (mFS S2 2 (6 * b + 1)) (mFS S2 0 4) && fLe (mFS S2 0 1) (mFS S2 2 (6 * b + 3 + 1)))) && (fLe (mFS S2 2 (6 * b + 2)) (mFS S2 0 5) && fLe (mFS S2 0 2) (mFS S2 2 (6 * b + 3 + 2)))))), (0, .ref (g_ad G 9 0)), (1, .int mask)]) hx hb dX4_overlapping_163 hl (k := 2) rfl (nI_add b 1) (by decide) rfl (fun ls hl => ?_)
                  refine lv_goto (tgt := 21) hx hb dX4_overlapping_166 (by decide) ?_
                  exact ih (b + 1) S2 cn H locs ls (by omega) (by rw [← hq, olR, if_neg (by unfold olB; rw [h12]; decide)]) hcn (by omega) hw hS (lv_sub hl [0, 3, 4] rfl)
                · skip
                  have h12 := bI_n0.mp h12
                  refine lv_aload_n hx hb dX4_overlapping_133 rfl (lv_at hl 3 rfl) ?_
                  refine gf hx hb hown hts hw hT 9 0 (by decide) (ci := 4) rfl rfl (fun _ h => List.mem_cons_of_mem _ (List.mem_append_right _ h)) 14 (by decide) (List.mem_of_getElem? (i := 6) rfl) (v := .ref (g_ad G 11 6)) rfl dX4_overlapping_134 ?_
                  refine lv_aload_n hx hb dX4_overlapping_137 rfl (lv_at hl 3 rfl) ?_
                  refine gf hx hb hown hts hw hT 9 0 (by decide) (ci := 4) rfl rfl (fun _ h => List.mem_cons_of_mem _ (List.mem_append_right _ h)) 13 (by decide) (List.mem_of_getElem? (i := 1) rfl) (v := .int (mnS S2 2)) rfl dX4_overlapping_138 ?_
                  refine top_i (y := nI cn) hcn ?_
                  refine lv_iload_n hx hb dX4_overlapping_141 rfl (lv_at hl 2 rfl) ?_
                  refine ais (S' := (mIU S2 (va_up (mIS S2) 6 (va_up (mIS S2 6) cn (nI b))))) hx hb hw hT hS 11 6 (by decide) (f := mIS S2 6) rfl cn (show cn < 512 by omega) (by decide) (mup_mI G S2 6 (va_up (mIS S2 6) cn (nI b))) dX4_overlapping_142 (fun H locs hw hS => ?_)
                  refine lv_aload_n hx hb dX4_overlapping_143 rfl (lv_at hl 3 rfl) ?_
                  refine gf hx hb hown hts hw hT 9 0 (by decide) (ci := 4) rfl rfl (fun _ h => List.mem_cons_of_mem _ (List.mem_append_right _ h)) 15 (by decide) (List.mem_of_getElem? (i := 7) rfl) (v := .ref (g_ad G 10 3)) rfl dX4_overlapping_144 ?_
                  refine lv_aload_n hx hb dX4_overlapping_147 rfl (lv_at hl 3 rfl) ?_
                  refine gf hx hb hown hts hw hT 9 0 (by decide) (ci := 4) rfl rfl (fun _ h => List.mem_cons_of_mem _ (List.mem_append_right _ h)) 13 (by decide) (List.mem_of_getElem? (i := 1) rfl) (v := .int (mnS S2 2)) rfl dX4_overlapping_148 ?_
                  refine top_i (y := nI cn) hcn ?_
                  refine lv_fconst0 hx hb dX4_overlapping_151 ?_
                  refine afs (S' := (mFU (mIU S2 (va_up (mIS S2) 6 (va_up (mIS S2 6) cn (nI b)))) (va_up (mFS (mIU S2 (va_up (mIS S2) 6 (va_up (mIS S2 6) cn (nI b))))) 3 (va_up (mFS S2 3) cn FP.fconst0)))) hx hb hw hT hS 10 3 (by decide) (f := mFS S2 3) rfl cn (show cn < 512 by omega) (by decide) (mup_mF G (mIU S2 (va_up (mIS S2) 6 (va_up (mIS S2 6) cn (nI b)))) 3 (va_up (mFS S2 3) cn FP.fconst0)) dX4_overlapping_152 (fun H locs hw hS => ?_)
                  refine lv_aload_n hx hb dX4_overlapping_153 rfl (lv_at hl 3 rfl) ?_
                  refine lv_dup hx hb dX4_overlapping_154 rfl ?_
                  refine gf hx hb hown hts hw hT 9 0 (by decide) (ci := 4) rfl rfl (fun _ h => List.mem_cons_of_mem _ (List.mem_append_right _ h)) 13 (by decide) (List.mem_of_getElem? (i := 1) rfl) (v := .int (mnS S2 2)) rfl dX4_overlapping_155 ?_
                  refine top_i (y := nI cn) hcn ?_
                  refine lv_iconst (v := nI 1) hx hb dX4_overlapping_158 (by decide) ?_
                  refine lv_iadd hx hb dX4_overlapping_159 ?_
                  refine top_i (y := nI (cn + 1)) (nI_add cn 1) ?_
                  refine pf (S' := (mnU (mFU (mIU S2 (va_up (mIS S2) 6 (va_up (mIS S2 6) cn (nI b)))) (va_up (mFS (mIU S2 (va_up (mIS S2) 6 (va_up (mIS S2 6) cn (nI b))))) 3 (va_up (mFS S2 3) cn FP.fconst0))) (va_up (mnS (mFU (mIU S2 (va_up (mIS S2) 6 (va_up (mIS S2 6) cn (nI b)))) (va_up (mFS (mIU S2 (va_up (mIS S2) 6 (va_up (mIS S2 6) cn (nI b))))) 3 (va_up (mFS S2 3) cn FP.fconst0)))) 2 (nI (cn + 1))))) hx hb hown hts hw hT hS 9 0 (by decide) (ci := 4) rfl rfl (fun _ h => List.mem_cons_of_mem _ (List.mem_append_right _ h)) tyX4 tyX4_ok nmX4 13 (by decide) (List.mem_of_getElem? (i := 1) rfl) rfl (ty := .int) (by decide +kernel) (vp_nar_int _) rfl (Nat.le_of_ble_eq_true rfl) (mup_mn2 G (mFU (mIU S2 (va_up (mIS S2) 6 (va_up (mIS S2 6) cn (nI b)))) (va_up (mFS (mIU S2 (va_up (mIS S2) 6 (va_up (mIS S2 6) cn (nI b))))) 3 (va_up (mFS S2 3) cn FP.fconst0))) (nI (cn + 1))) dX4_overlapping_160 (fun H locs hw hS => ?_)
                  refine lv_iinc (v := nI (b + 1)) (lv' := [(2, .int (nI (b + 1))), (4, .int (nI 3)), (3, .int (bI ((((mZS S2 0 b && !(mIS S2 0 b &&& mask == 0)) && (fLe (mFS S2 2 (6 * b + 0)) (mFS S2 0 3) && fLe (mFS S2 0 0) (mFS S2 2 (6 * b + 3 + 0)))) && (fLe (mFS S2 2 (6 * b + 1)) (mFS S2 0 4) && fLe (mFS S2 0 1) (mFS S2 2 (6 * b + 3 + 1)))) && (fLe (mFS S2 2 (6 * b + 2)) (mFS S2 0 5) && fLe (mFS S2 0 2) (mFS S2 2 (6 * b + 3 + 2)))))), (0, .ref (g_ad G 9 0)), (1, .int mask)]) hx hb dX4_overlapping_163 hl (k := 2) rfl (nI_add b 1) (by decide) rfl (fun ls hl => ?_)
                  refine lv_goto (tgt := 21) hx hb dX4_overlapping_166 (by decide) ?_
                  have hw : wdM G (fnM S2 cn b FP.fconst0) H s := hw
                  exact ih (b + 1) (fnM S2 cn b FP.fconst0) (cn + 1) H locs ls (by omega) (by rw [← hq, olR, if_pos (by unfold olB; exact h12)]) (fnM_c _ _ _ _) (by omega) hw hS (lv_sub hl [0, 3, 4] rfl)
              refine lv_iload_n hx hb dX4_overlapping_63 rfl (lv_at hl 1 rfl) ?_
              refine lv_if_eq (tgt := 121) hx hb dX4_overlapping_64 (by decide) (fun h13 => ?_) (fun h13 => ?_)
              · skip
                have h13 := bI_0.mp h13
                refine lv_iconst (v := nI 0) hx hb dX4_overlapping_121 (by decide) ?_
                refine top_i (y := bI false) (by decide) ?_
                exact K10 false _ _ (by first | (simp only [h13, Bool.true_and, Bool.false_and, Bool.and_true, Bool.and_false]; done) | simp [h13]) hw hS
              · skip
                have h13 := bI_n0.mp h13
                refine lv_aload_n hx hb dX4_overlapping_67 rfl (lv_at hl 3 rfl) ?_
                refine gf hx hb hown hts hw hT 9 0 (by decide) (ci := 4) rfl rfl (fun _ h => List.mem_cons_of_mem _ (List.mem_append_right _ h)) 7 (by decide) (List.mem_of_getElem? (i := 4) rfl) (v := .ref (g_ad G 10 2)) rfl dX4_overlapping_68 ?_
                refine lv_bipush (v := nI 6) hx hb dX4_overlapping_71 (by decide) ?_
                refine lv_iload_n hx hb dX4_overlapping_73 rfl (lv_at hl 2 rfl) ?_
                refine lv_imul hx hb dX4_overlapping_74 ?_
                refine top_i (y := nI (6 * b)) (pk_mul 6 b) ?_
                refine lv_iload hx hb dX4_overlapping_75 (lv_at hl 0 rfl) ?_
                refine lv_iadd hx hb dX4_overlapping_77 ?_
                refine top_i (y := nI (6 * b + 2)) (nI_add (6 * b) 2) ?_
                refine afl hx hb hw hT 10 2 (by decide) (f := mFS S2 2) rfl (6 * b + 2) (show 6 * b + 2 < 3072 by omega) (by decide) dX4_overlapping_78 ?_
                refine lv_aload_n hx hb dX4_overlapping_79 rfl (lv_at hl 3 rfl) ?_
                refine gf hx hb hown hts hw hT 9 0 (by decide) (ci := 4) rfl rfl (fun _ h => List.mem_cons_of_mem _ (List.mem_append_right _ h)) 1 (by decide) (List.mem_of_getElem? (i := 5) rfl) (v := .ref (g_ad G 10 0)) rfl dX4_overlapping_80 ?_
                refine lv_iconst (v := nI 3) hx hb dX4_overlapping_83 (by decide) ?_
                refine lv_iload hx hb dX4_overlapping_84 (lv_at hl 0 rfl) ?_
                refine lv_iadd hx hb dX4_overlapping_86 ?_
                refine top_i (y := nI 5) (by decide) ?_
                refine afl hx hb hw hT 10 0 (by decide) (f := mFS S2 0) rfl 5 (by decide) (by decide) dX4_overlapping_87 ?_
                refine fc_ggt (x := mFS S2 2 (6 * b + 2)) (y := mFS S2 0 5) (tgt := 121) hx hb dX4_overlapping_88 dX4_overlapping_89 (by decide) (fun h14 => ?_) (fun h14 => ?_)
                · skip
                  refine lv_iconst (v := nI 0) hx hb dX4_overlapping_121 (by decide) ?_
                  refine top_i (y := bI false) (by decide) ?_
                  exact K10 false _ _ (by first | (simp only [h13, h14, Bool.true_and, Bool.false_and, Bool.and_true, Bool.and_false]; done) | simp [h13, h14]) hw hS
                · skip
                  refine lv_aload_n hx hb dX4_overlapping_92 rfl (lv_at hl 3 rfl) ?_
                  refine gf hx hb hown hts hw hT 9 0 (by decide) (ci := 4) rfl rfl (fun _ h => List.mem_cons_of_mem _ (List.mem_append_right _ h)) 1 (by decide) (List.mem_of_getElem? (i := 5) rfl) (v := .ref (g_ad G 10 0)) rfl dX4_overlapping_93 ?_
                  refine lv_iload hx hb dX4_overlapping_96 (lv_at hl 0 rfl) ?_
                  refine afl hx hb hw hT 10 0 (by decide) (f := mFS S2 0) rfl 2 (by decide) (by decide) dX4_overlapping_98 ?_
                  refine lv_aload_n hx hb dX4_overlapping_99 rfl (lv_at hl 3 rfl) ?_
                  refine gf hx hb hown hts hw hT 9 0 (by decide) (ci := 4) rfl rfl (fun _ h => List.mem_cons_of_mem _ (List.mem_append_right _ h)) 7 (by decide) (List.mem_of_getElem? (i := 4) rfl) (v := .ref (g_ad G 10 2)) rfl dX4_overlapping_100 ?_
                  refine lv_bipush (v := nI 6) hx hb dX4_overlapping_103 (by decide) ?_
                  refine lv_iload_n hx hb dX4_overlapping_105 rfl (lv_at hl 2 rfl) ?_
                  refine lv_imul hx hb dX4_overlapping_106 ?_
                  refine top_i (y := nI (6 * b)) (pk_mul 6 b) ?_
                  refine lv_iconst (v := nI 3) hx hb dX4_overlapping_107 (by decide) ?_
                  refine lv_iadd hx hb dX4_overlapping_108 ?_
                  refine top_i (y := nI (6 * b + 3)) (nI_add (6 * b) 3) ?_
                  refine lv_iload hx hb dX4_overlapping_109 (lv_at hl 0 rfl) ?_
                  refine lv_iadd hx hb dX4_overlapping_111 ?_
                  refine top_i (y := nI (6 * b + 3 + 2)) (nI_add (6 * b + 3) 2) ?_
                  refine afl hx hb hw hT 10 2 (by decide) (f := mFS S2 2) rfl (6 * b + 3 + 2) (show 6 * b + 3 + 2 < 3072 by omega) (by decide) dX4_overlapping_112 ?_
                  refine fc_ggt (x := mFS S2 0 2) (y := mFS S2 2 (6 * b + 3 + 2)) (tgt := 121) hx hb dX4_overlapping_113 dX4_overlapping_114 (by decide) (fun h15 => ?_) (fun h15 => ?_)
                  · skip
                    refine lv_iconst (v := nI 0) hx hb dX4_overlapping_121 (by decide) ?_
                    refine top_i (y := bI false) (by decide) ?_
                    exact K10 false _ _ (by first | (simp only [h13, h14, h15, Bool.true_and, Bool.false_and, Bool.and_true, Bool.and_false]; done) | simp [h13, h14, h15]) hw hS
                  · skip
                    refine lv_iconst (v := nI 1) hx hb dX4_overlapping_117 (by decide) ?_
                    refine lv_goto (tgt := 122) hx hb dX4_overlapping_118 (by decide) ?_
                    refine top_i (y := bI true) (by decide) ?_
                    exact K10 true _ _ (by first | (simp only [h13, h14, h15, Bool.true_and, Bool.false_and, Bool.and_true, Bool.and_false]; done) | simp [h13, h14, h15]) hw hS
            refine lv_iload_n hx hb dX4_overlapping_63 rfl (lv_at hl 1 rfl) ?_
            refine lv_if_eq (tgt := 121) hx hb dX4_overlapping_64 (by decide) (fun h16 => ?_) (fun h16 => ?_)
            · skip
              have h16 := bI_0.mp h16
              refine lv_iconst (v := nI 0) hx hb dX4_overlapping_121 (by decide) ?_
              refine top_i (y := bI false) (by decide) ?_
              exact K8 false _ _ (by first | (simp only [h16, Bool.true_and, Bool.false_and, Bool.and_true, Bool.and_false]; done) | simp [h16]) hw hS
            · skip
              have h16 := bI_n0.mp h16
              refine lv_aload_n hx hb dX4_overlapping_67 rfl (lv_at hl 3 rfl) ?_
              refine gf hx hb hown hts hw hT 9 0 (by decide) (ci := 4) rfl rfl (fun _ h => List.mem_cons_of_mem _ (List.mem_append_right _ h)) 7 (by decide) (List.mem_of_getElem? (i := 4) rfl) (v := .ref (g_ad G 10 2)) rfl dX4_overlapping_68 ?_
              refine lv_bipush (v := nI 6) hx hb dX4_overlapping_71 (by decide) ?_
              refine lv_iload_n hx hb dX4_overlapping_73 rfl (lv_at hl 2 rfl) ?_
              refine lv_imul hx hb dX4_overlapping_74 ?_
              refine top_i (y := nI (6 * b)) (pk_mul 6 b) ?_
              refine lv_iload hx hb dX4_overlapping_75 (lv_at hl 0 rfl) ?_
              refine lv_iadd hx hb dX4_overlapping_77 ?_
              refine top_i (y := nI (6 * b + 1)) (nI_add (6 * b) 1) ?_
              refine afl hx hb hw hT 10 2 (by decide) (f := mFS S2 2) rfl (6 * b + 1) (show 6 * b + 1 < 3072 by omega) (by decide) dX4_overlapping_78 ?_
              refine lv_aload_n hx hb dX4_overlapping_79 rfl (lv_at hl 3 rfl) ?_
              refine gf hx hb hown hts hw hT 9 0 (by decide) (ci := 4) rfl rfl (fun _ h => List.mem_cons_of_mem _ (List.mem_append_right _ h)) 1 (by decide) (List.mem_of_getElem? (i := 5) rfl) (v := .ref (g_ad G 10 0)) rfl dX4_overlapping_80 ?_
              refine lv_iconst (v := nI 3) hx hb dX4_overlapping_83 (by decide) ?_
              refine lv_iload hx hb dX4_overlapping_84 (lv_at hl 0 rfl) ?_
              refine lv_iadd hx hb dX4_overlapping_86 ?_
              refine top_i (y := nI 4) (by decide) ?_
              refine afl hx hb hw hT 10 0 (by decide) (f := mFS S2 0) rfl 4 (by decide) (by decide) dX4_overlapping_87 ?_
              refine fc_ggt (x := mFS S2 2 (6 * b + 1)) (y := mFS S2 0 4) (tgt := 121) hx hb dX4_overlapping_88 dX4_overlapping_89 (by decide) (fun h17 => ?_) (fun h17 => ?_)
              · skip
                refine lv_iconst (v := nI 0) hx hb dX4_overlapping_121 (by decide) ?_
                refine top_i (y := bI false) (by decide) ?_
                exact K8 false _ _ (by first | (simp only [h16, h17, Bool.true_and, Bool.false_and, Bool.and_true, Bool.and_false]; done) | simp [h16, h17]) hw hS
              · skip
                refine lv_aload_n hx hb dX4_overlapping_92 rfl (lv_at hl 3 rfl) ?_
                refine gf hx hb hown hts hw hT 9 0 (by decide) (ci := 4) rfl rfl (fun _ h => List.mem_cons_of_mem _ (List.mem_append_right _ h)) 1 (by decide) (List.mem_of_getElem? (i := 5) rfl) (v := .ref (g_ad G 10 0)) rfl dX4_overlapping_93 ?_
                refine lv_iload hx hb dX4_overlapping_96 (lv_at hl 0 rfl) ?_
                refine afl hx hb hw hT 10 0 (by decide) (f := mFS S2 0) rfl 1 (by decide) (by decide) dX4_overlapping_98 ?_
                refine lv_aload_n hx hb dX4_overlapping_99 rfl (lv_at hl 3 rfl) ?_
                refine gf hx hb hown hts hw hT 9 0 (by decide) (ci := 4) rfl rfl (fun _ h => List.mem_cons_of_mem _ (List.mem_append_right _ h)) 7 (by decide) (List.mem_of_getElem? (i := 4) rfl) (v := .ref (g_ad G 10 2)) rfl dX4_overlapping_100 ?_
                refine lv_bipush (v := nI 6) hx hb dX4_overlapping_103 (by decide) ?_
                refine lv_iload_n hx hb dX4_overlapping_105 rfl (lv_at hl 2 rfl) ?_
                refine lv_imul hx hb dX4_overlapping_106 ?_
                refine top_i (y := nI (6 * b)) (pk_mul 6 b) ?_
                refine lv_iconst (v := nI 3) hx hb dX4_overlapping_107 (by decide) ?_
                refine lv_iadd hx hb dX4_overlapping_108 ?_
                refine top_i (y := nI (6 * b + 3)) (nI_add (6 * b) 3) ?_
                refine lv_iload hx hb dX4_overlapping_109 (lv_at hl 0 rfl) ?_
                refine lv_iadd hx hb dX4_overlapping_111 ?_
                refine top_i (y := nI (6 * b + 3 + 1)) (nI_add (6 * b + 3) 1) ?_
                refine afl hx hb hw hT 10 2 (by decide) (f := mFS S2 2) rfl (6 * b + 3 + 1) (show 6 * b + 3 + 1 < 3072 by omega) (by decide) dX4_overlapping_112 ?_
                refine fc_ggt (x := mFS S2 0 1) (y := mFS S2 2 (6 * b + 3 + 1)) (tgt := 121) hx hb dX4_overlapping_113 dX4_overlapping_114 (by decide) (fun h18 => ?_) (fun h18 => ?_)
                · skip
                  refine lv_iconst (v := nI 0) hx hb dX4_overlapping_121 (by decide) ?_
                  refine top_i (y := bI false) (by decide) ?_
                  exact K8 false _ _ (by first | (simp only [h16, h17, h18, Bool.true_and, Bool.false_and, Bool.and_true, Bool.and_false]; done) | simp [h16, h17, h18]) hw hS
                · skip
                  refine lv_iconst (v := nI 1) hx hb dX4_overlapping_117 (by decide) ?_
                  refine lv_goto (tgt := 122) hx hb dX4_overlapping_118 (by decide) ?_
                  refine top_i (y := bI true) (by decide) ?_
                  exact K8 true _ _ (by first | (simp only [h16, h17, h18, Bool.true_and, Bool.false_and, Bool.and_true, Bool.and_false]; done) | simp [h16, h17, h18]) hw hS
          refine lv_iload_n hx hb dX4_overlapping_63 rfl (lv_at hl 1 rfl) ?_
          refine lv_if_eq (tgt := 121) hx hb dX4_overlapping_64 (by decide) (fun h19 => ?_) (fun h19 => ?_)
          · skip
            have h19 := bI_0.mp h19
            refine lv_iconst (v := nI 0) hx hb dX4_overlapping_121 (by decide) ?_
            refine top_i (y := bI false) (by decide) ?_
            exact K6 false _ _ (by first | (simp only [h19, Bool.true_and, Bool.false_and, Bool.and_true, Bool.and_false]; done) | simp [h19]) hw hS
          · skip
            have h19 := bI_n0.mp h19
            refine lv_aload_n hx hb dX4_overlapping_67 rfl (lv_at hl 3 rfl) ?_
            refine gf hx hb hown hts hw hT 9 0 (by decide) (ci := 4) rfl rfl (fun _ h => List.mem_cons_of_mem _ (List.mem_append_right _ h)) 7 (by decide) (List.mem_of_getElem? (i := 4) rfl) (v := .ref (g_ad G 10 2)) rfl dX4_overlapping_68 ?_
            refine lv_bipush (v := nI 6) hx hb dX4_overlapping_71 (by decide) ?_
            refine lv_iload_n hx hb dX4_overlapping_73 rfl (lv_at hl 2 rfl) ?_
            refine lv_imul hx hb dX4_overlapping_74 ?_
            refine top_i (y := nI (6 * b)) (pk_mul 6 b) ?_
            refine lv_iload hx hb dX4_overlapping_75 (lv_at hl 0 rfl) ?_
            refine lv_iadd hx hb dX4_overlapping_77 ?_
            refine top_i (y := nI (6 * b + 0)) (nI_add (6 * b) 0) ?_
            refine afl hx hb hw hT 10 2 (by decide) (f := mFS S2 2) rfl (6 * b + 0) (show 6 * b + 0 < 3072 by omega) (by decide) dX4_overlapping_78 ?_
            refine lv_aload_n hx hb dX4_overlapping_79 rfl (lv_at hl 3 rfl) ?_
            refine gf hx hb hown hts hw hT 9 0 (by decide) (ci := 4) rfl rfl (fun _ h => List.mem_cons_of_mem _ (List.mem_append_right _ h)) 1 (by decide) (List.mem_of_getElem? (i := 5) rfl) (v := .ref (g_ad G 10 0)) rfl dX4_overlapping_80 ?_
            refine lv_iconst (v := nI 3) hx hb dX4_overlapping_83 (by decide) ?_
            refine lv_iload hx hb dX4_overlapping_84 (lv_at hl 0 rfl) ?_
            refine lv_iadd hx hb dX4_overlapping_86 ?_
            refine top_i (y := nI 3) (by decide) ?_
            refine afl hx hb hw hT 10 0 (by decide) (f := mFS S2 0) rfl 3 (by decide) (by decide) dX4_overlapping_87 ?_
            refine fc_ggt (x := mFS S2 2 (6 * b + 0)) (y := mFS S2 0 3) (tgt := 121) hx hb dX4_overlapping_88 dX4_overlapping_89 (by decide) (fun h20 => ?_) (fun h20 => ?_)
            · skip
              refine lv_iconst (v := nI 0) hx hb dX4_overlapping_121 (by decide) ?_
              refine top_i (y := bI false) (by decide) ?_
              exact K6 false _ _ (by first | (simp only [h19, h20, Bool.true_and, Bool.false_and, Bool.and_true, Bool.and_false]; done) | simp [h19, h20]) hw hS
            · skip
              refine lv_aload_n hx hb dX4_overlapping_92 rfl (lv_at hl 3 rfl) ?_
              refine gf hx hb hown hts hw hT 9 0 (by decide) (ci := 4) rfl rfl (fun _ h => List.mem_cons_of_mem _ (List.mem_append_right _ h)) 1 (by decide) (List.mem_of_getElem? (i := 5) rfl) (v := .ref (g_ad G 10 0)) rfl dX4_overlapping_93 ?_
              refine lv_iload hx hb dX4_overlapping_96 (lv_at hl 0 rfl) ?_
              refine afl hx hb hw hT 10 0 (by decide) (f := mFS S2 0) rfl 0 (by decide) (by decide) dX4_overlapping_98 ?_
              refine lv_aload_n hx hb dX4_overlapping_99 rfl (lv_at hl 3 rfl) ?_
              refine gf hx hb hown hts hw hT 9 0 (by decide) (ci := 4) rfl rfl (fun _ h => List.mem_cons_of_mem _ (List.mem_append_right _ h)) 7 (by decide) (List.mem_of_getElem? (i := 4) rfl) (v := .ref (g_ad G 10 2)) rfl dX4_overlapping_100 ?_
              refine lv_bipush (v := nI 6) hx hb dX4_overlapping_103 (by decide) ?_
              refine lv_iload_n hx hb dX4_overlapping_105 rfl (lv_at hl 2 rfl) ?_
              refine lv_imul hx hb dX4_overlapping_106 ?_
              refine top_i (y := nI (6 * b)) (pk_mul 6 b) ?_
              refine lv_iconst (v := nI 3) hx hb dX4_overlapping_107 (by decide) ?_
              refine lv_iadd hx hb dX4_overlapping_108 ?_
              refine top_i (y := nI (6 * b + 3)) (nI_add (6 * b) 3) ?_
              refine lv_iload hx hb dX4_overlapping_109 (lv_at hl 0 rfl) ?_
              refine lv_iadd hx hb dX4_overlapping_111 ?_
              refine top_i (y := nI (6 * b + 3 + 0)) (nI_add (6 * b + 3) 0) ?_
              refine afl hx hb hw hT 10 2 (by decide) (f := mFS S2 2) rfl (6 * b + 3 + 0) (show 6 * b + 3 + 0 < 3072 by omega) (by decide) dX4_overlapping_112 ?_
              refine fc_ggt (x := mFS S2 0 0) (y := mFS S2 2 (6 * b + 3 + 0)) (tgt := 121) hx hb dX4_overlapping_113 dX4_overlapping_114 (by decide) (fun h21 => ?_) (fun h21 => ?_)
              · skip
                refine lv_iconst (v := nI 0) hx hb dX4_overlapping_121 (by decide) ?_
                refine top_i (y := bI false) (by decide) ?_
                exact K6 false _ _ (by first | (simp only [h19, h20, h21, Bool.true_and, Bool.false_and, Bool.and_true, Bool.and_false]; done) | simp [h19, h20, h21]) hw hS
              · skip
                refine lv_iconst (v := nI 1) hx hb dX4_overlapping_117 (by decide) ?_
                refine lv_goto (tgt := 122) hx hb dX4_overlapping_118 (by decide) ?_
                refine top_i (y := bI true) (by decide) ?_
                exact K6 true _ _ (by first | (simp only [h19, h20, h21, Bool.true_and, Bool.false_and, Bool.and_true, Bool.and_false]; done) | simp [h19, h20, h21]) hw hS
        refine lv_aload_n hx hb dX4_overlapping_28 rfl (lv_at hl 1 rfl) ?_
        refine gf hx hb hown hts hw hT 9 0 (by decide) (ci := 4) rfl rfl (fun _ h => List.mem_cons_of_mem _ (List.mem_append_right _ h)) 2 (by decide) (List.mem_of_getElem? (i := 2) rfl) (v := .ref (g_ad G 12 0)) rfl dX4_overlapping_29 ?_
        refine lv_iload_n hx hb dX4_overlapping_32 rfl (lv_at hl 0 rfl) ?_
        refine azl hx hb hw hT 12 0 (by decide) (f := (fun q => bI (mZS S2 0 q))) rfl b (show b < 512 by omega) (by decide) dX4_overlapping_33 ?_
        refine lv_if_eq (tgt := 52) hx hb dX4_overlapping_34 (by decide) (fun h22 => ?_) (fun h22 => ?_)
        · skip
          have h22 := bI_0.mp h22
          refine lv_iconst (v := nI 0) hx hb dX4_overlapping_52 (by decide) ?_
          refine top_i (y := bI false) (by decide) ?_
          exact K4 false _ _ (by first | (simp only [h22, Bool.true_and, Bool.false_and, Bool.and_true, Bool.and_false]; done) | simp [h22]) hw hS
        · skip
          have h22 := bI_n0.mp h22
          refine lv_aload_n hx hb dX4_overlapping_37 rfl (lv_at hl 1 rfl) ?_
          refine gf hx hb hown hts hw hT 9 0 (by decide) (ci := 4) rfl rfl (fun _ h => List.mem_cons_of_mem _ (List.mem_append_right _ h)) 4 (by decide) (List.mem_of_getElem? (i := 3) rfl) (v := .ref (g_ad G 11 0)) rfl dX4_overlapping_38 ?_
          refine lv_iload_n hx hb dX4_overlapping_41 rfl (lv_at hl 0 rfl) ?_
          refine ail hx hb hw hT 11 0 (by decide) (f := mIS S2 0) rfl b (show b < 512 by omega) (by decide) dX4_overlapping_42 ?_
          refine lv_iload_n hx hb dX4_overlapping_43 rfl (lv_at hl 2 rfl) ?_
          refine lv_iand hx hb dX4_overlapping_44 ?_
          refine lv_if_eq (tgt := 52) hx hb dX4_overlapping_45 (by decide) (fun h23 => ?_) (fun h23 => ?_)
          · skip
            refine lv_iconst (v := nI 0) hx hb dX4_overlapping_52 (by decide) ?_
            refine top_i (y := bI false) (by decide) ?_
            exact K4 false _ _ (by first | (simp only [h22, h23, Bool.true_and, Bool.false_and, Bool.and_true, Bool.and_false]; done) | simp [h22, h23]) hw hS
          · skip
            refine lv_iconst (v := nI 1) hx hb dX4_overlapping_48 (by decide) ?_
            refine lv_goto (tgt := 53) hx hb dX4_overlapping_49 (by decide) ?_
            refine top_i (y := bI true) (by decide) ?_
            exact K4 true _ _ (by first | (simp only [h22, h23, Bool.true_and, Bool.false_and, Bool.and_true, Bool.and_false]; done) | simp [h22, h23]) hw hS
    exact LOOP 512 0 ((fzM (okS S))) 0 _ _ ls (by omega) rfl (fzM_c _) (by omega) hw hS (lv_sub hl [0, 1, 2] rfl)
  · skip
    have h1 := bI_0.mp h1
    refine lv_iconst (v := nI 0) hx hb dX4_overlapping_12 (by decide) ?_
    exact ri hx hb hlk hr (by unfold olMS; rw [if_neg (by rw [h1]; decide)]; exact hw) hS (by unfold olMI; rw [if_neg (by rw [h1]; decide)]) (vp_nar_int _) (Nat.le_of_ble_eq_true rfl) (Nat.le_of_ble_eq_true rfl) dX4_overlapping_13
set_option maxRecDepth 100000 in
set_option maxHeartbeats 1000000 in
theorem m_enters (l : Launch) (G : Gm) (S : St) (b : Nat) (hb5 : b < 512) (hn : nN (mFS S 2) (mFS S 0) b) : Pf l yX4_enters wsX4_enters ({ frames := 0, cells := 0, slots := 0, locals := 0 } : Room) [.ref (g_ad G 9 0), .int (nI b)] G S (enM S b) S := by
  refine ent (cc := cX4_enters) (maxL := 14) (ret := (some .float)) (by decide) rfl (Nat.le_of_ble_eq_true rfl) ?_
  intro p e s m below meth c ls C hw hT hS hl
  obtain ⟨hx, hb, hr, hml, hown, hts, hlk⟩ := C
  have hl : lv_has ls 14 [(0, .ref (g_ad G 9 0)), (1, .int (nI b))] := hl
  refine lv_fconst0 hx hb dX4_enters_0 ?_
  refine lv_fstore_n (lv' := [(2, .float FP.fconst0), (0, .ref (g_ad G 9 0)), (1, .int (nI b))]) hx hb dX4_enters_1 rfl hl (by decide) rfl (fun ls hl => ?_)
  refine lv_fconst1 hx hb dX4_enters_2 ?_
  refine lv_fstore_n (lv' := [(3, .float FP.fconst1), (2, .float FP.fconst0), (0, .ref (g_ad G 9 0)), (1, .int (nI b))]) hx hb dX4_enters_3 rfl hl (by decide) rfl (fun ls hl => ?_)
  refine lv_iconst (v := nI 1) hx hb dX4_enters_4 (by decide) ?_
  refine lv_istore (lv' := [(4, .int (nI 1)), (3, .float FP.fconst1), (2, .float FP.fconst0), (0, .ref (g_ad G 9 0)), (1, .int (nI b))]) hx hb dX4_enters_5 hl (by decide) rfl (fun ls hl => ?_)
  refine lv_iconst (v := nI 0) hx hb dX4_enters_7 (by decide) ?_
  refine lv_istore (lv' := [(5, .int (nI 0)), (4, .int (nI 1)), (3, .float FP.fconst1), (2, .float FP.fconst0), (0, .ref (g_ad G 9 0)), (1, .int (nI b))]) hx hb dX4_enters_8 hl (by decide) rfl (fun ls hl => ?_)
  have LOOP : ∀ (n i : Nat) (en : UInt32) (lv : UInt32) (ok : Bool) (H : Heap) (locs : List Loc) (ls : Array Slot), i + n = 3 → (eR (mFS S 2) (mFS S 0) b n i en lv ok = eR (mFS S 2) (mFS S 0) b 3 0 FP.fconst0 FP.fconst1 true) → wdM G S H s → va_S (g_A G) s.heap H locs → lv_has ls 14 [(5, .int (nI i)), (2, .float en), (3, .float lv), (4, .int (bI ok)), (0, .ref (g_ad G 9 0)), (1, .int (nI b))] → W p l e ({ frames := 0, cells := 0, slots := 0, locals := 0 } : Room) s m ([.ref (g_ad G 9 0), .int (nI b)] : List Value).toArray below meth c H locs 0 0 (MQ below (Qf G (enM S b) S) ([.ref (g_ad G 9 0), .int (nI b)] : List Value).toArray s ({ frames := 0, cells := 0, slots := 0, locals := 0 } : Room).cells ({ frames := 0, cells := 0, slots := 0, locals := 0 } : Room).slots (g_A G)) (F0 m 10 ls []) := by
    intro n
    induction n with
    | zero =>
      intro i en lv ok H locs ls hn8 hq hw hS hl
      obtain rfl : 3 = i := by omega
      refine lv_iload hx hb dX4_enters_10 (lv_at hl 0 rfl) ?_
      refine lv_iconst (v := nI 3) hx hb dX4_enters_12 (by decide) ?_
      refine lv_icmp_ge (tgt := 195) hx hb dX4_enters_13 (by decide) (fun _ => ?_) (fun q => absurd (by decide) q)
      refine lv_iload hx hb dX4_enters_195 (lv_at hl 3 rfl) ?_
      refine lv_if_eq (tgt := 210) hx hb dX4_enters_197 (by decide) (fun h2 => ?_) (fun h2 => ?_)
      · skip
        have h2 := bI_0.mp h2
        refine lv_fconst2 hx hb dX4_enters_210 ?_
        exact rf hx hb hlk hr hw hS (by unfold enM; rw [← hq]; simp [eR, h2]) (Nat.le_of_ble_eq_true rfl) (Nat.le_of_ble_eq_true rfl) dX4_enters_211
      · skip
        have h2 := bI_n0.mp h2
        refine lv_fload_n hx hb dX4_enters_200 rfl (lv_at hl 1 rfl) ?_
        refine lv_fload_n hx hb dX4_enters_201 rfl (lv_at hl 2 rfl) ?_
        refine fc_ggt (x := en) (y := lv) (tgt := 210) hx hb dX4_enters_202 dX4_enters_203 (by decide) (fun h3 => ?_) (fun h3 => ?_)
        · skip
          refine lv_fconst2 hx hb dX4_enters_210 ?_
          exact rf hx hb hlk hr hw hS (by unfold enM; rw [← hq]; simp [eR, h2, h3]) (Nat.le_of_ble_eq_true rfl) (Nat.le_of_ble_eq_true rfl) dX4_enters_211
        · skip
          refine lv_fload_n hx hb dX4_enters_206 rfl (lv_at hl 1 rfl) ?_
          refine lv_goto (tgt := 211) hx hb dX4_enters_207 (by decide) ?_
          exact rf hx hb hlk hr hw hS (by unfold enM; rw [← hq]; simp [eR, h2, h3]) (Nat.le_of_ble_eq_true rfl) (Nat.le_of_ble_eq_true rfl) dX4_enters_211
    | succ n ih =>
      intro i en lv ok H locs ls hn8 hq hw hS hl
      have hi : i < 3 := by omega
      have hi9 := hn i (by omega)
      refine lv_iload hx hb dX4_enters_10 (lv_at hl 0 rfl) ?_
      refine lv_iconst (v := nI 3) hx hb dX4_enters_12 (by decide) ?_
      refine lv_icmp_ge (tgt := 195) hx hb dX4_enters_13 (by decide) (fun q => absurd q (nI_ge hi (by decide))) (fun _ => ?_)
      refine lv_aload_n hx hb dX4_enters_16 rfl (lv_at hl 4 rfl) ?_
      refine gf hx hb hown hts hw hT 9 0 (by decide) (ci := 4) rfl rfl (fun _ h => List.mem_cons_of_mem _ (List.mem_append_right _ h)) 1 (by decide) (List.mem_of_getElem? (i := 1) rfl) (v := .ref (g_ad G 10 0)) rfl dX4_enters_17 ?_
      refine lv_iload hx hb dX4_enters_20 (lv_at hl 0 rfl) ?_
      refine afl hx hb hw hT 10 0 (by decide) (f := mFS S 0) rfl i (show i < 6 by omega) (by decide) dX4_enters_22 ?_
      refine lv_fstore (lv' := [(6, .float (mFS S 0 i)), (5, .int (nI i)), (2, .float en), (3, .float lv), (4, .int (bI ok)), (0, .ref (g_ad G 9 0)), (1, .int (nI b))]) hx hb dX4_enters_23 hl (by decide) rfl (fun ls hl => ?_)
      refine lv_aload_n hx hb dX4_enters_25 rfl (lv_at hl 5 rfl) ?_
      refine gf hx hb hown hts hw hT 9 0 (by decide) (ci := 4) rfl rfl (fun _ h => List.mem_cons_of_mem _ (List.mem_append_right _ h)) 1 (by decide) (List.mem_of_getElem? (i := 1) rfl) (v := .ref (g_ad G 10 0)) rfl dX4_enters_26 ?_
      refine lv_iconst (v := nI 3) hx hb dX4_enters_29 (by decide) ?_
      refine lv_iload hx hb dX4_enters_30 (lv_at hl 1 rfl) ?_
      refine lv_iadd hx hb dX4_enters_32 ?_
      refine top_i (y := nI (3 + i)) (nI_add 3 i) ?_
      refine afl hx hb hw hT 10 0 (by decide) (f := mFS S 0) rfl (3 + i) (show 3 + i < 6 by omega) (by decide) dX4_enters_33 ?_
      refine lv_fload hx hb dX4_enters_34 (lv_at hl 0 rfl) ?_
      refine lv_fsub hx hb dX4_enters_36 hi9.1 ?_
      refine lv_fstore (lv' := [(7, .float (FP.fsub (mFS S 0 (3 + i)) (mFS S 0 i))), (6, .float (mFS S 0 i)), (5, .int (nI i)), (2, .float en), (3, .float lv), (4, .int (bI ok)), (0, .ref (g_ad G 9 0)), (1, .int (nI b))]) hx hb dX4_enters_37 hl (by decide) rfl (fun ls hl => ?_)
      refine lv_aload_n hx hb dX4_enters_39 rfl (lv_at hl 6 rfl) ?_
      refine gf hx hb hown hts hw hT 9 0 (by decide) (ci := 4) rfl rfl (fun _ h => List.mem_cons_of_mem _ (List.mem_append_right _ h)) 7 (by decide) (List.mem_of_getElem? (i := 2) rfl) (v := .ref (g_ad G 10 2)) rfl dX4_enters_40 ?_
      refine lv_bipush (v := nI 6) hx hb dX4_enters_43 (by decide) ?_
      refine lv_iload_n hx hb dX4_enters_45 rfl (lv_at hl 7 rfl) ?_
      refine lv_imul hx hb dX4_enters_46 ?_
      refine top_i (y := nI (6 * b)) (pk_mul 6 b) ?_
      refine lv_iload hx hb dX4_enters_47 (lv_at hl 2 rfl) ?_
      refine lv_iadd hx hb dX4_enters_49 ?_
      refine top_i (y := nI (6 * b + i)) (nI_add (6 * b) i) ?_
      refine afl hx hb hw hT 10 2 (by decide) (f := mFS S 2) rfl (6 * b + i) (show 6 * b + i < 3072 by omega) (by decide) dX4_enters_50 ?_
      refine lv_fstore (lv' := [(8, .float (mFS S 2 (6 * b + i))), (7, .float (FP.fsub (mFS S 0 (3 + i)) (mFS S 0 i))), (6, .float (mFS S 0 i)), (5, .int (nI i)), (2, .float en), (3, .float lv), (4, .int (bI ok)), (0, .ref (g_ad G 9 0)), (1, .int (nI b))]) hx hb dX4_enters_51 hl (by decide) rfl (fun ls hl => ?_)
      refine lv_aload_n hx hb dX4_enters_53 rfl (lv_at hl 7 rfl) ?_
      refine gf hx hb hown hts hw hT 9 0 (by decide) (ci := 4) rfl rfl (fun _ h => List.mem_cons_of_mem _ (List.mem_append_right _ h)) 7 (by decide) (List.mem_of_getElem? (i := 2) rfl) (v := .ref (g_ad G 10 2)) rfl dX4_enters_54 ?_
      refine lv_bipush (v := nI 6) hx hb dX4_enters_57 (by decide) ?_
      refine lv_iload_n hx hb dX4_enters_59 rfl (lv_at hl 8 rfl) ?_
      refine lv_imul hx hb dX4_enters_60 ?_
      refine top_i (y := nI (6 * b)) (pk_mul 6 b) ?_
      refine lv_iconst (v := nI 3) hx hb dX4_enters_61 (by decide) ?_
      refine lv_iadd hx hb dX4_enters_62 ?_
      refine top_i (y := nI (6 * b + 3)) (nI_add (6 * b) 3) ?_
      refine lv_iload hx hb dX4_enters_63 (lv_at hl 3 rfl) ?_
      refine lv_iadd hx hb dX4_enters_65 ?_
      refine top_i (y := nI (6 * b + 3 + i)) (nI_add (6 * b + 3) i) ?_
      refine afl hx hb hw hT 10 2 (by decide) (f := mFS S 2) rfl (6 * b + 3 + i) (show 6 * b + 3 + i < 3072 by omega) (by decide) dX4_enters_66 ?_
      refine lv_fstore (lv' := [(9, .float (mFS S 2 (6 * b + 3 + i))), (8, .float (mFS S 2 (6 * b + i))), (7, .float (FP.fsub (mFS S 0 (3 + i)) (mFS S 0 i))), (6, .float (mFS S 0 i)), (5, .int (nI i)), (2, .float en), (3, .float lv), (4, .int (bI ok)), (0, .ref (g_ad G 9 0)), (1, .int (nI b))]) hx hb dX4_enters_67 hl (by decide) rfl (fun ls hl => ?_)
      refine lv_fload hx hb dX4_enters_69 (lv_at hl 2 rfl) ?_
      refine lv_fconst0 hx hb dX4_enters_71 ?_
      refine fc_lne (x := FP.fsub (mFS S 0 (3 + i)) (mFS S 0 i)) (y := FP.fconst0) (tgt := 107) hx hb dX4_enters_72 dX4_enters_73 (by decide) (fun h5 => ?_) (fun h5 => ?_)
      · skip
        refine lv_fload hx hb dX4_enters_107 (lv_at hl 1 rfl) ?_
        refine lv_fload hx hb dX4_enters_109 (lv_at hl 3 rfl) ?_
        refine lv_fsub hx hb dX4_enters_111 hi9.2.1 ?_
        refine lv_fload hx hb dX4_enters_112 (lv_at hl 2 rfl) ?_
        refine lv_fdiv hx hb dX4_enters_114 (hi9.2.2.2 h5).1 ?_
        refine lv_fstore (lv' := [(10, .float (FP.fdiv (FP.fsub (mFS S 2 (6 * b + i)) (mFS S 0 i)) (FP.fsub (mFS S 0 (3 + i)) (mFS S 0 i)))), (9, .float (mFS S 2 (6 * b + 3 + i))), (8, .float (mFS S 2 (6 * b + i))), (7, .float (FP.fsub (mFS S 0 (3 + i)) (mFS S 0 i))), (6, .float (mFS S 0 i)), (5, .int (nI i)), (2, .float en), (3, .float lv), (4, .int (bI ok)), (0, .ref (g_ad G 9 0)), (1, .int (nI b))]) hx hb dX4_enters_115 hl (by decide) rfl (fun ls hl => ?_)
        refine lv_fload hx hb dX4_enters_117 (lv_at hl 1 rfl) ?_
        refine lv_fload hx hb dX4_enters_119 (lv_at hl 4 rfl) ?_
        refine lv_fsub hx hb dX4_enters_121 hi9.2.2.1 ?_
        refine lv_fload hx hb dX4_enters_122 (lv_at hl 3 rfl) ?_
        refine lv_fdiv hx hb dX4_enters_124 (hi9.2.2.2 h5).2 ?_
        refine lv_fstore (lv' := [(11, .float (FP.fdiv (FP.fsub (mFS S 2 (6 * b + 3 + i)) (mFS S 0 i)) (FP.fsub (mFS S 0 (3 + i)) (mFS S 0 i)))), (10, .float (FP.fdiv (FP.fsub (mFS S 2 (6 * b + i)) (mFS S 0 i)) (FP.fsub (mFS S 0 (3 + i)) (mFS S 0 i)))), (9, .float (mFS S 2 (6 * b + 3 + i))), (8, .float (mFS S 2 (6 * b + i))), (7, .float (FP.fsub (mFS S 0 (3 + i)) (mFS S 0 i))), (6, .float (mFS S 0 i)), (5, .int (nI i)), (2, .float en), (3, .float lv), (4, .int (bI ok)), (0, .ref (g_ad G 9 0)), (1, .int (nI b))]) hx hb dX4_enters_125 hl (by decide) rfl (fun ls hl => ?_)
        have K6 : ∀ (b9 : UInt32) (H : Heap) (locs : List Loc), b9 = (if fGt (FP.fdiv (FP.fsub (mFS S 2 (6 * b + i)) (mFS S 0 i)) (FP.fsub (mFS S 0 (3 + i)) (mFS S 0 i))) (FP.fdiv (FP.fsub (mFS S 2 (6 * b + 3 + i)) (mFS S 0 i)) (FP.fsub (mFS S 0 (3 + i)) (mFS S 0 i))) = true then FP.fdiv (FP.fsub (mFS S 2 (6 * b + 3 + i)) (mFS S 0 i)) (FP.fsub (mFS S 0 (3 + i)) (mFS S 0 i)) else FP.fdiv (FP.fsub (mFS S 2 (6 * b + i)) (mFS S 0 i)) (FP.fsub (mFS S 0 (3 + i)) (mFS S 0 i))) → wdM G S H s → va_S (g_A G) s.heap H locs → W p l e ({ frames := 0, cells := 0, slots := 0, locals := 0 } : Room) s m ([.ref (g_ad G 9 0), .int (nI b)] : List Value).toArray below meth c H locs 0 0 (MQ below (Qf G (enM S b) S) ([.ref (g_ad G 9 0), .int (nI b)] : List Value).toArray s ({ frames := 0, cells := 0, slots := 0, locals := 0 } : Room).cells ({ frames := 0, cells := 0, slots := 0, locals := 0 } : Room).slots (g_A G)) (F0 m 142 ls [.float b9]) := by
          intro b9 H locs hb9 hw hS
          subst hb9
          refine lv_fstore (lv' := [(12, .float (if fGt (FP.fdiv (FP.fsub (mFS S 2 (6 * b + i)) (mFS S 0 i)) (FP.fsub (mFS S 0 (3 + i)) (mFS S 0 i))) (FP.fdiv (FP.fsub (mFS S 2 (6 * b + 3 + i)) (mFS S 0 i)) (FP.fsub (mFS S 0 (3 + i)) (mFS S 0 i))) = true then FP.fdiv (FP.fsub (mFS S 2 (6 * b + 3 + i)) (mFS S 0 i)) (FP.fsub (mFS S 0 (3 + i)) (mFS S 0 i)) else FP.fdiv (FP.fsub (mFS S 2 (6 * b + i)) (mFS S 0 i)) (FP.fsub (mFS S 0 (3 + i)) (mFS S 0 i)))), (11, .float (FP.fdiv (FP.fsub (mFS S 2 (6 * b + 3 + i)) (mFS S 0 i)) (FP.fsub (mFS S 0 (3 + i)) (mFS S 0 i)))), (10, .float (FP.fdiv (FP.fsub (mFS S 2 (6 * b + i)) (mFS S 0 i)) (FP.fsub (mFS S 0 (3 + i)) (mFS S 0 i)))), (9, .float (mFS S 2 (6 * b + 3 + i))), (8, .float (mFS S 2 (6 * b + i))), (7, .float (FP.fsub (mFS S 0 (3 + i)) (mFS S 0 i))), (6, .float (mFS S 0 i)), (5, .int (nI i)), (2, .float en), (3, .float lv), (4, .int (bI ok)), (0, .ref (g_ad G 9 0)), (1, .int (nI b))]) hx hb dX4_enters_142 hl (by decide) rfl (fun ls hl => ?_)
          have K7 : ∀ (b9 : UInt32) (H : Heap) (locs : List Loc), b9 = (if fGt (FP.fdiv (FP.fsub (mFS S 2 (6 * b + i)) (mFS S 0 i)) (FP.fsub (mFS S 0 (3 + i)) (mFS S 0 i))) (FP.fdiv (FP.fsub (mFS S 2 (6 * b + 3 + i)) (mFS S 0 i)) (FP.fsub (mFS S 0 (3 + i)) (mFS S 0 i))) = true then FP.fdiv (FP.fsub (mFS S 2 (6 * b + i)) (mFS S 0 i)) (FP.fsub (mFS S 0 (3 + i)) (mFS S 0 i)) else FP.fdiv (FP.fsub (mFS S 2 (6 * b + 3 + i)) (mFS S 0 i)) (FP.fsub (mFS S 0 (3 + i)) (mFS S 0 i))) → wdM G S H s → va_S (g_A G) s.heap H locs → W p l e ({ frames := 0, cells := 0, slots := 0, locals := 0 } : Room) s m ([.ref (g_ad G 9 0), .int (nI b)] : List Value).toArray below meth c H locs 0 0 (MQ below (Qf G (enM S b) S) ([.ref (g_ad G 9 0), .int (nI b)] : List Value).toArray s ({ frames := 0, cells := 0, slots := 0, locals := 0 } : Room).cells ({ frames := 0, cells := 0, slots := 0, locals := 0 } : Room).slots (g_A G)) (F0 m 159 ls [.float b9]) := by
            intro b9 H locs hb9 hw hS
            subst hb9
            refine lv_fstore (lv' := [(13, .float (if fGt (FP.fdiv (FP.fsub (mFS S 2 (6 * b + i)) (mFS S 0 i)) (FP.fsub (mFS S 0 (3 + i)) (mFS S 0 i))) (FP.fdiv (FP.fsub (mFS S 2 (6 * b + 3 + i)) (mFS S 0 i)) (FP.fsub (mFS S 0 (3 + i)) (mFS S 0 i))) = true then FP.fdiv (FP.fsub (mFS S 2 (6 * b + i)) (mFS S 0 i)) (FP.fsub (mFS S 0 (3 + i)) (mFS S 0 i)) else FP.fdiv (FP.fsub (mFS S 2 (6 * b + 3 + i)) (mFS S 0 i)) (FP.fsub (mFS S 0 (3 + i)) (mFS S 0 i)))), (12, .float (if fGt (FP.fdiv (FP.fsub (mFS S 2 (6 * b + i)) (mFS S 0 i)) (FP.fsub (mFS S 0 (3 + i)) (mFS S 0 i))) (FP.fdiv (FP.fsub (mFS S 2 (6 * b + 3 + i)) (mFS S 0 i)) (FP.fsub (mFS S 0 (3 + i)) (mFS S 0 i))) = true then FP.fdiv (FP.fsub (mFS S 2 (6 * b + 3 + i)) (mFS S 0 i)) (FP.fsub (mFS S 0 (3 + i)) (mFS S 0 i)) else FP.fdiv (FP.fsub (mFS S 2 (6 * b + i)) (mFS S 0 i)) (FP.fsub (mFS S 0 (3 + i)) (mFS S 0 i)))), (11, .float (FP.fdiv (FP.fsub (mFS S 2 (6 * b + 3 + i)) (mFS S 0 i)) (FP.fsub (mFS S 0 (3 + i)) (mFS S 0 i)))), (10, .float (FP.fdiv (FP.fsub (mFS S 2 (6 * b + i)) (mFS S 0 i)) (FP.fsub (mFS S 0 (3 + i)) (mFS S 0 i)))), (9, .float (mFS S 2 (6 * b + 3 + i))), (8, .float (mFS S 2 (6 * b + i))), (7, .float (FP.fsub (mFS S 0 (3 + i)) (mFS S 0 i))), (6, .float (mFS S 0 i)), (5, .int (nI i)), (2, .float en), (3, .float lv), (4, .int (bI ok)), (0, .ref (g_ad G 9 0)), (1, .int (nI b))]) hx hb dX4_enters_159 hl (by decide) rfl (fun ls hl => ?_)
            have K8 : ∀ (b9 : UInt32) (H : Heap) (locs : List Loc), b9 = (if fGt (if fGt (FP.fdiv (FP.fsub (mFS S 2 (6 * b + i)) (mFS S 0 i)) (FP.fsub (mFS S 0 (3 + i)) (mFS S 0 i))) (FP.fdiv (FP.fsub (mFS S 2 (6 * b + 3 + i)) (mFS S 0 i)) (FP.fsub (mFS S 0 (3 + i)) (mFS S 0 i))) = true then FP.fdiv (FP.fsub (mFS S 2 (6 * b + 3 + i)) (mFS S 0 i)) (FP.fsub (mFS S 0 (3 + i)) (mFS S 0 i)) else FP.fdiv (FP.fsub (mFS S 2 (6 * b + i)) (mFS S 0 i)) (FP.fsub (mFS S 0 (3 + i)) (mFS S 0 i))) en = true then (if fGt (FP.fdiv (FP.fsub (mFS S 2 (6 * b + i)) (mFS S 0 i)) (FP.fsub (mFS S 0 (3 + i)) (mFS S 0 i))) (FP.fdiv (FP.fsub (mFS S 2 (6 * b + 3 + i)) (mFS S 0 i)) (FP.fsub (mFS S 0 (3 + i)) (mFS S 0 i))) = true then FP.fdiv (FP.fsub (mFS S 2 (6 * b + 3 + i)) (mFS S 0 i)) (FP.fsub (mFS S 0 (3 + i)) (mFS S 0 i)) else FP.fdiv (FP.fsub (mFS S 2 (6 * b + i)) (mFS S 0 i)) (FP.fsub (mFS S 0 (3 + i)) (mFS S 0 i))) else en) → wdM G S H s → va_S (g_A G) s.heap H locs → W p l e ({ frames := 0, cells := 0, slots := 0, locals := 0 } : Room) s m ([.ref (g_ad G 9 0), .int (nI b)] : List Value).toArray below meth c H locs 0 0 (MQ below (Qf G (enM S b) S) ([.ref (g_ad G 9 0), .int (nI b)] : List Value).toArray s ({ frames := 0, cells := 0, slots := 0, locals := 0 } : Room).cells ({ frames := 0, cells := 0, slots := 0, locals := 0 } : Room).slots (g_A G)) (F0 m 174 ls [.float b9]) := by
              intro b9 H locs hb9 hw hS
              subst hb9
              refine lv_fstore_n (lv' := [(2, .float (if fGt (if fGt (FP.fdiv (FP.fsub (mFS S 2 (6 * b + i)) (mFS S 0 i)) (FP.fsub (mFS S 0 (3 + i)) (mFS S 0 i))) (FP.fdiv (FP.fsub (mFS S 2 (6 * b + 3 + i)) (mFS S 0 i)) (FP.fsub (mFS S 0 (3 + i)) (mFS S 0 i))) = true then FP.fdiv (FP.fsub (mFS S 2 (6 * b + 3 + i)) (mFS S 0 i)) (FP.fsub (mFS S 0 (3 + i)) (mFS S 0 i)) else FP.fdiv (FP.fsub (mFS S 2 (6 * b + i)) (mFS S 0 i)) (FP.fsub (mFS S 0 (3 + i)) (mFS S 0 i))) en = true then (if fGt (FP.fdiv (FP.fsub (mFS S 2 (6 * b + i)) (mFS S 0 i)) (FP.fsub (mFS S 0 (3 + i)) (mFS S 0 i))) (FP.fdiv (FP.fsub (mFS S 2 (6 * b + 3 + i)) (mFS S 0 i)) (FP.fsub (mFS S 0 (3 + i)) (mFS S 0 i))) = true then FP.fdiv (FP.fsub (mFS S 2 (6 * b + 3 + i)) (mFS S 0 i)) (FP.fsub (mFS S 0 (3 + i)) (mFS S 0 i)) else FP.fdiv (FP.fsub (mFS S 2 (6 * b + i)) (mFS S 0 i)) (FP.fsub (mFS S 0 (3 + i)) (mFS S 0 i))) else en)), (13, .float (if fGt (FP.fdiv (FP.fsub (mFS S 2 (6 * b + i)) (mFS S 0 i)) (FP.fsub (mFS S 0 (3 + i)) (mFS S 0 i))) (FP.fdiv (FP.fsub (mFS S 2 (6 * b + 3 + i)) (mFS S 0 i)) (FP.fsub (mFS S 0 (3 + i)) (mFS S 0 i))) = true then FP.fdiv (FP.fsub (mFS S 2 (6 * b + i)) (mFS S 0 i)) (FP.fsub (mFS S 0 (3 + i)) (mFS S 0 i)) else FP.fdiv (FP.fsub (mFS S 2 (6 * b + 3 + i)) (mFS S 0 i)) (FP.fsub (mFS S 0 (3 + i)) (mFS S 0 i)))), (12, .float (if fGt (FP.fdiv (FP.fsub (mFS S 2 (6 * b + i)) (mFS S 0 i)) (FP.fsub (mFS S 0 (3 + i)) (mFS S 0 i))) (FP.fdiv (FP.fsub (mFS S 2 (6 * b + 3 + i)) (mFS S 0 i)) (FP.fsub (mFS S 0 (3 + i)) (mFS S 0 i))) = true then FP.fdiv (FP.fsub (mFS S 2 (6 * b + 3 + i)) (mFS S 0 i)) (FP.fsub (mFS S 0 (3 + i)) (mFS S 0 i)) else FP.fdiv (FP.fsub (mFS S 2 (6 * b + i)) (mFS S 0 i)) (FP.fsub (mFS S 0 (3 + i)) (mFS S 0 i)))), (11, .float (FP.fdiv (FP.fsub (mFS S 2 (6 * b + 3 + i)) (mFS S 0 i)) (FP.fsub (mFS S 0 (3 + i)) (mFS S 0 i)))), (10, .float (FP.fdiv (FP.fsub (mFS S 2 (6 * b + i)) (mFS S 0 i)) (FP.fsub (mFS S 0 (3 + i)) (mFS S 0 i)))), (9, .float (mFS S 2 (6 * b + 3 + i))), (8, .float (mFS S 2 (6 * b + i))), (7, .float (FP.fsub (mFS S 0 (3 + i)) (mFS S 0 i))), (6, .float (mFS S 0 i)), (5, .int (nI i)), (3, .float lv), (4, .int (bI ok)), (0, .ref (g_ad G 9 0)), (1, .int (nI b))]) hx hb dX4_enters_174 rfl hl (by decide) rfl (fun ls hl => ?_)
              have K9 : ∀ (b9 : UInt32) (H : Heap) (locs : List Loc), b9 = (if fLt (if fGt (FP.fdiv (FP.fsub (mFS S 2 (6 * b + i)) (mFS S 0 i)) (FP.fsub (mFS S 0 (3 + i)) (mFS S 0 i))) (FP.fdiv (FP.fsub (mFS S 2 (6 * b + 3 + i)) (mFS S 0 i)) (FP.fsub (mFS S 0 (3 + i)) (mFS S 0 i))) = true then FP.fdiv (FP.fsub (mFS S 2 (6 * b + i)) (mFS S 0 i)) (FP.fsub (mFS S 0 (3 + i)) (mFS S 0 i)) else FP.fdiv (FP.fsub (mFS S 2 (6 * b + 3 + i)) (mFS S 0 i)) (FP.fsub (mFS S 0 (3 + i)) (mFS S 0 i))) lv = true then (if fGt (FP.fdiv (FP.fsub (mFS S 2 (6 * b + i)) (mFS S 0 i)) (FP.fsub (mFS S 0 (3 + i)) (mFS S 0 i))) (FP.fdiv (FP.fsub (mFS S 2 (6 * b + 3 + i)) (mFS S 0 i)) (FP.fsub (mFS S 0 (3 + i)) (mFS S 0 i))) = true then FP.fdiv (FP.fsub (mFS S 2 (6 * b + i)) (mFS S 0 i)) (FP.fsub (mFS S 0 (3 + i)) (mFS S 0 i)) else FP.fdiv (FP.fsub (mFS S 2 (6 * b + 3 + i)) (mFS S 0 i)) (FP.fsub (mFS S 0 (3 + i)) (mFS S 0 i))) else lv) → wdM G S H s → va_S (g_A G) s.heap H locs → W p l e ({ frames := 0, cells := 0, slots := 0, locals := 0 } : Room) s m ([.ref (g_ad G 9 0), .int (nI b)] : List Value).toArray below meth c H locs 0 0 (MQ below (Qf G (enM S b) S) ([.ref (g_ad G 9 0), .int (nI b)] : List Value).toArray s ({ frames := 0, cells := 0, slots := 0, locals := 0 } : Room).cells ({ frames := 0, cells := 0, slots := 0, locals := 0 } : Room).slots (g_A G)) (F0 m 188 ls [.float b9]) := by
                intro b9 H locs hb9 hw hS
                subst hb9
                refine lv_fstore_n (lv' := [(3, .float (if fLt (if fGt (FP.fdiv (FP.fsub (mFS S 2 (6 * b + i)) (mFS S 0 i)) (FP.fsub (mFS S 0 (3 + i)) (mFS S 0 i))) (FP.fdiv (FP.fsub (mFS S 2 (6 * b + 3 + i)) (mFS S 0 i)) (FP.fsub (mFS S 0 (3 + i)) (mFS S 0 i))) = true then FP.fdiv (FP.fsub (mFS S 2 (6 * b + i)) (mFS S 0 i)) (FP.fsub (mFS S 0 (3 + i)) (mFS S 0 i)) else FP.fdiv (FP.fsub (mFS S 2 (6 * b + 3 + i)) (mFS S 0 i)) (FP.fsub (mFS S 0 (3 + i)) (mFS S 0 i))) lv = true then (if fGt (FP.fdiv (FP.fsub (mFS S 2 (6 * b + i)) (mFS S 0 i)) (FP.fsub (mFS S 0 (3 + i)) (mFS S 0 i))) (FP.fdiv (FP.fsub (mFS S 2 (6 * b + 3 + i)) (mFS S 0 i)) (FP.fsub (mFS S 0 (3 + i)) (mFS S 0 i))) = true then FP.fdiv (FP.fsub (mFS S 2 (6 * b + i)) (mFS S 0 i)) (FP.fsub (mFS S 0 (3 + i)) (mFS S 0 i)) else FP.fdiv (FP.fsub (mFS S 2 (6 * b + 3 + i)) (mFS S 0 i)) (FP.fsub (mFS S 0 (3 + i)) (mFS S 0 i))) else lv)), (2, .float (if fGt (if fGt (FP.fdiv (FP.fsub (mFS S 2 (6 * b + i)) (mFS S 0 i)) (FP.fsub (mFS S 0 (3 + i)) (mFS S 0 i))) (FP.fdiv (FP.fsub (mFS S 2 (6 * b + 3 + i)) (mFS S 0 i)) (FP.fsub (mFS S 0 (3 + i)) (mFS S 0 i))) = true then FP.fdiv (FP.fsub (mFS S 2 (6 * b + 3 + i)) (mFS S 0 i)) (FP.fsub (mFS S 0 (3 + i)) (mFS S 0 i)) else FP.fdiv (FP.fsub (mFS S 2 (6 * b + i)) (mFS S 0 i)) (FP.fsub (mFS S 0 (3 + i)) (mFS S 0 i))) en = true then (if fGt (FP.fdiv (FP.fsub (mFS S 2 (6 * b + i)) (mFS S 0 i)) (FP.fsub (mFS S 0 (3 + i)) (mFS S 0 i))) (FP.fdiv (FP.fsub (mFS S 2 (6 * b + 3 + i)) (mFS S 0 i)) (FP.fsub (mFS S 0 (3 + i)) (mFS S 0 i))) = true then FP.fdiv (FP.fsub (mFS S 2 (6 * b + 3 + i)) (mFS S 0 i)) (FP.fsub (mFS S 0 (3 + i)) (mFS S 0 i)) else FP.fdiv (FP.fsub (mFS S 2 (6 * b + i)) (mFS S 0 i)) (FP.fsub (mFS S 0 (3 + i)) (mFS S 0 i))) else en)), (13, .float (if fGt (FP.fdiv (FP.fsub (mFS S 2 (6 * b + i)) (mFS S 0 i)) (FP.fsub (mFS S 0 (3 + i)) (mFS S 0 i))) (FP.fdiv (FP.fsub (mFS S 2 (6 * b + 3 + i)) (mFS S 0 i)) (FP.fsub (mFS S 0 (3 + i)) (mFS S 0 i))) = true then FP.fdiv (FP.fsub (mFS S 2 (6 * b + i)) (mFS S 0 i)) (FP.fsub (mFS S 0 (3 + i)) (mFS S 0 i)) else FP.fdiv (FP.fsub (mFS S 2 (6 * b + 3 + i)) (mFS S 0 i)) (FP.fsub (mFS S 0 (3 + i)) (mFS S 0 i)))), (12, .float (if fGt (FP.fdiv (FP.fsub (mFS S 2 (6 * b + i)) (mFS S 0 i)) (FP.fsub (mFS S 0 (3 + i)) (mFS S 0 i))) (FP.fdiv (FP.fsub (mFS S 2 (6 * b + 3 + i)) (mFS S 0 i)) (FP.fsub (mFS S 0 (3 + i)) (mFS S 0 i))) = true then FP.fdiv (FP.fsub (mFS S 2 (6 * b + 3 + i)) (mFS S 0 i)) (FP.fsub (mFS S 0 (3 + i)) (mFS S 0 i)) else FP.fdiv (FP.fsub (mFS S 2 (6 * b + i)) (mFS S 0 i)) (FP.fsub (mFS S 0 (3 + i)) (mFS S 0 i)))), (11, .float (FP.fdiv (FP.fsub (mFS S 2 (6 * b + 3 + i)) (mFS S 0 i)) (FP.fsub (mFS S 0 (3 + i)) (mFS S 0 i)))), (10, .float (FP.fdiv (FP.fsub (mFS S 2 (6 * b + i)) (mFS S 0 i)) (FP.fsub (mFS S 0 (3 + i)) (mFS S 0 i)))), (9, .float (mFS S 2 (6 * b + 3 + i))), (8, .float (mFS S 2 (6 * b + i))), (7, .float (FP.fsub (mFS S 0 (3 + i)) (mFS S 0 i))), (6, .float (mFS S 0 i)), (5, .int (nI i)), (4, .int (bI ok)), (0, .ref (g_ad G 9 0)), (1, .int (nI b))]) hx hb dX4_enters_188 rfl hl (by decide) rfl (fun ls hl => ?_)
                refine lv_iinc (v := nI (i + 1)) (lv' := [(5, .int (nI (i + 1))), (3, .float (if fLt (if fGt (FP.fdiv (FP.fsub (mFS S 2 (6 * b + i)) (mFS S 0 i)) (FP.fsub (mFS S 0 (3 + i)) (mFS S 0 i))) (FP.fdiv (FP.fsub (mFS S 2 (6 * b + 3 + i)) (mFS S 0 i)) (FP.fsub (mFS S 0 (3 + i)) (mFS S 0 i))) = true then FP.fdiv (FP.fsub (mFS S 2 (6 * b + i)) (mFS S 0 i)) (FP.fsub (mFS S 0 (3 + i)) (mFS S 0 i)) else FP.fdiv (FP.fsub (mFS S 2 (6 * b + 3 + i)) (mFS S 0 i)) (FP.fsub (mFS S 0 (3 + i)) (mFS S 0 i))) lv = true then (if fGt (FP.fdiv (FP.fsub (mFS S 2 (6 * b + i)) (mFS S 0 i)) (FP.fsub (mFS S 0 (3 + i)) (mFS S 0 i))) (FP.fdiv (FP.fsub (mFS S 2 (6 * b + 3 + i)) (mFS S 0 i)) (FP.fsub (mFS S 0 (3 + i)) (mFS S 0 i))) = true then FP.fdiv (FP.fsub (mFS S 2 (6 * b + i)) (mFS S 0 i)) (FP.fsub (mFS S 0 (3 + i)) (mFS S 0 i)) else FP.fdiv (FP.fsub (mFS S 2 (6 * b + 3 + i)) (mFS S 0 i)) (FP.fsub (mFS S 0 (3 + i)) (mFS S 0 i))) else lv)), (2, .float (if fGt (if fGt (FP.fdiv (FP.fsub (mFS S 2 (6 * b + i)) (mFS S 0 i)) (FP.fsub (mFS S 0 (3 + i)) (mFS S 0 i))) (FP.fdiv (FP.fsub (mFS S 2 (6 * b + 3 + i)) (mFS S 0 i)) (FP.fsub (mFS S 0 (3 + i)) (mFS S 0 i))) = true then FP.fdiv (FP.fsub (mFS S 2 (6 * b + 3 + i)) (mFS S 0 i)) (FP.fsub (mFS S 0 (3 + i)) (mFS S 0 i)) else FP.fdiv (FP.fsub (mFS S 2 (6 * b + i)) (mFS S 0 i)) (FP.fsub (mFS S 0 (3 + i)) (mFS S 0 i))) en = true then (if fGt (FP.fdiv (FP.fsub (mFS S 2 (6 * b + i)) (mFS S 0 i)) (FP.fsub (mFS S 0 (3 + i)) (mFS S 0 i))) (FP.fdiv (FP.fsub (mFS S 2 (6 * b + 3 + i)) (mFS S 0 i)) (FP.fsub (mFS S 0 (3 + i)) (mFS S 0 i))) = true then FP.fdiv (FP.fsub (mFS S 2 (6 * b + 3 + i)) (mFS S 0 i)) (FP.fsub (mFS S 0 (3 + i)) (mFS S 0 i)) else FP.fdiv (FP.fsub (mFS S 2 (6 * b + i)) (mFS S 0 i)) (FP.fsub (mFS S 0 (3 + i)) (mFS S 0 i))) else en)), (13, .float (if fGt (FP.fdiv (FP.fsub (mFS S 2 (6 * b + i)) (mFS S 0 i)) (FP.fsub (mFS S 0 (3 + i)) (mFS S 0 i))) (FP.fdiv (FP.fsub (mFS S 2 (6 * b + 3 + i)) (mFS S 0 i)) (FP.fsub (mFS S 0 (3 + i)) (mFS S 0 i))) = true then FP.fdiv (FP.fsub (mFS S 2 (6 * b + i)) (mFS S 0 i)) (FP.fsub (mFS S 0 (3 + i)) (mFS S 0 i)) else FP.fdiv (FP.fsub (mFS S 2 (6 * b + 3 + i)) (mFS S 0 i)) (FP.fsub (mFS S 0 (3 + i)) (mFS S 0 i)))), (12, .float (if fGt (FP.fdiv (FP.fsub (mFS S 2 (6 * b + i)) (mFS S 0 i)) (FP.fsub (mFS S 0 (3 + i)) (mFS S 0 i))) (FP.fdiv (FP.fsub (mFS S 2 (6 * b + 3 + i)) (mFS S 0 i)) (FP.fsub (mFS S 0 (3 + i)) (mFS S 0 i))) = true then FP.fdiv (FP.fsub (mFS S 2 (6 * b + 3 + i)) (mFS S 0 i)) (FP.fsub (mFS S 0 (3 + i)) (mFS S 0 i)) else FP.fdiv (FP.fsub (mFS S 2 (6 * b + i)) (mFS S 0 i)) (FP.fsub (mFS S 0 (3 + i)) (mFS S 0 i)))), (11, .float (FP.fdiv (FP.fsub (mFS S 2 (6 * b + 3 + i)) (mFS S 0 i)) (FP.fsub (mFS S 0 (3 + i)) (mFS S 0 i)))), (10, .float (FP.fdiv (FP.fsub (mFS S 2 (6 * b + i)) (mFS S 0 i)) (FP.fsub (mFS S 0 (3 + i)) (mFS S 0 i)))), (9, .float (mFS S 2 (6 * b + 3 + i))), (8, .float (mFS S 2 (6 * b + i))), (7, .float (FP.fsub (mFS S 0 (3 + i)) (mFS S 0 i))), (6, .float (mFS S 0 i)), (4, .int (bI ok)), (0, .ref (g_ad G 9 0)), (1, .int (nI b))]) hx hb dX4_enters_189 hl (k := 10) rfl (nI_add i 1) (by decide) rfl (fun ls hl => ?_)
                refine lv_goto (tgt := 10) hx hb dX4_enters_192 (by decide) ?_
                exact ih (i + 1) (if fGt (if fGt (FP.fdiv (FP.fsub (mFS S 2 (6 * b + i)) (mFS S 0 i)) (FP.fsub (mFS S 0 (3 + i)) (mFS S 0 i))) (FP.fdiv (FP.fsub (mFS S 2 (6 * b + 3 + i)) (mFS S 0 i)) (FP.fsub (mFS S 0 (3 + i)) (mFS S 0 i))) = true then FP.fdiv (FP.fsub (mFS S 2 (6 * b + 3 + i)) (mFS S 0 i)) (FP.fsub (mFS S 0 (3 + i)) (mFS S 0 i)) else FP.fdiv (FP.fsub (mFS S 2 (6 * b + i)) (mFS S 0 i)) (FP.fsub (mFS S 0 (3 + i)) (mFS S 0 i))) en = true then (if fGt (FP.fdiv (FP.fsub (mFS S 2 (6 * b + i)) (mFS S 0 i)) (FP.fsub (mFS S 0 (3 + i)) (mFS S 0 i))) (FP.fdiv (FP.fsub (mFS S 2 (6 * b + 3 + i)) (mFS S 0 i)) (FP.fsub (mFS S 0 (3 + i)) (mFS S 0 i))) = true then FP.fdiv (FP.fsub (mFS S 2 (6 * b + 3 + i)) (mFS S 0 i)) (FP.fsub (mFS S 0 (3 + i)) (mFS S 0 i)) else FP.fdiv (FP.fsub (mFS S 2 (6 * b + i)) (mFS S 0 i)) (FP.fsub (mFS S 0 (3 + i)) (mFS S 0 i))) else en) (if fLt (if fGt (FP.fdiv (FP.fsub (mFS S 2 (6 * b + i)) (mFS S 0 i)) (FP.fsub (mFS S 0 (3 + i)) (mFS S 0 i))) (FP.fdiv (FP.fsub (mFS S 2 (6 * b + 3 + i)) (mFS S 0 i)) (FP.fsub (mFS S 0 (3 + i)) (mFS S 0 i))) = true then FP.fdiv (FP.fsub (mFS S 2 (6 * b + i)) (mFS S 0 i)) (FP.fsub (mFS S 0 (3 + i)) (mFS S 0 i)) else FP.fdiv (FP.fsub (mFS S 2 (6 * b + 3 + i)) (mFS S 0 i)) (FP.fsub (mFS S 0 (3 + i)) (mFS S 0 i))) lv = true then (if fGt (FP.fdiv (FP.fsub (mFS S 2 (6 * b + i)) (mFS S 0 i)) (FP.fsub (mFS S 0 (3 + i)) (mFS S 0 i))) (FP.fdiv (FP.fsub (mFS S 2 (6 * b + 3 + i)) (mFS S 0 i)) (FP.fsub (mFS S 0 (3 + i)) (mFS S 0 i))) = true then FP.fdiv (FP.fsub (mFS S 2 (6 * b + i)) (mFS S 0 i)) (FP.fsub (mFS S 0 (3 + i)) (mFS S 0 i)) else FP.fdiv (FP.fsub (mFS S 2 (6 * b + 3 + i)) (mFS S 0 i)) (FP.fsub (mFS S 0 (3 + i)) (mFS S 0 i))) else lv) ok H locs ls (by omega) ((eR_n h5).symm.trans hq) hw hS (lv_sub hl [0, 2, 1, 11, 12, 13] rfl)
              refine lv_fload hx hb dX4_enters_175 (lv_at hl 1 rfl) ?_
              refine lv_fload_n hx hb dX4_enters_177 rfl (lv_at hl 10 rfl) ?_
              refine fc_gge (x := if fGt (FP.fdiv (FP.fsub (mFS S 2 (6 * b + i)) (mFS S 0 i)) (FP.fsub (mFS S 0 (3 + i)) (mFS S 0 i))) (FP.fdiv (FP.fsub (mFS S 2 (6 * b + 3 + i)) (mFS S 0 i)) (FP.fsub (mFS S 0 (3 + i)) (mFS S 0 i))) = true then FP.fdiv (FP.fsub (mFS S 2 (6 * b + i)) (mFS S 0 i)) (FP.fsub (mFS S 0 (3 + i)) (mFS S 0 i)) else FP.fdiv (FP.fsub (mFS S 2 (6 * b + 3 + i)) (mFS S 0 i)) (FP.fsub (mFS S 0 (3 + i)) (mFS S 0 i))) (y := lv) (tgt := 187) hx hb dX4_enters_178 dX4_enters_179 (by decide) (fun h10 => ?_) (fun h10 => ?_)
              · skip
                refine lv_fload_n hx hb dX4_enters_187 rfl (lv_at hl 10 rfl) ?_
                exact K9 lv _ _ (by rw [if_neg (by rw [h10]; decide)]) hw hS
              · skip
                refine lv_fload hx hb dX4_enters_182 (lv_at hl 1 rfl) ?_
                refine lv_goto (tgt := 188) hx hb dX4_enters_184 (by decide) ?_
                exact K9 (if fGt (FP.fdiv (FP.fsub (mFS S 2 (6 * b + i)) (mFS S 0 i)) (FP.fsub (mFS S 0 (3 + i)) (mFS S 0 i))) (FP.fdiv (FP.fsub (mFS S 2 (6 * b + 3 + i)) (mFS S 0 i)) (FP.fsub (mFS S 0 (3 + i)) (mFS S 0 i))) = true then FP.fdiv (FP.fsub (mFS S 2 (6 * b + i)) (mFS S 0 i)) (FP.fsub (mFS S 0 (3 + i)) (mFS S 0 i)) else FP.fdiv (FP.fsub (mFS S 2 (6 * b + 3 + i)) (mFS S 0 i)) (FP.fsub (mFS S 0 (3 + i)) (mFS S 0 i))) _ _ (by rw [if_pos h10]) hw hS
            refine lv_fload hx hb dX4_enters_161 (lv_at hl 1 rfl) ?_
            refine lv_fload_n hx hb dX4_enters_163 rfl (lv_at hl 9 rfl) ?_
            refine fc_lle (x := if fGt (FP.fdiv (FP.fsub (mFS S 2 (6 * b + i)) (mFS S 0 i)) (FP.fsub (mFS S 0 (3 + i)) (mFS S 0 i))) (FP.fdiv (FP.fsub (mFS S 2 (6 * b + 3 + i)) (mFS S 0 i)) (FP.fsub (mFS S 0 (3 + i)) (mFS S 0 i))) = true then FP.fdiv (FP.fsub (mFS S 2 (6 * b + 3 + i)) (mFS S 0 i)) (FP.fsub (mFS S 0 (3 + i)) (mFS S 0 i)) else FP.fdiv (FP.fsub (mFS S 2 (6 * b + i)) (mFS S 0 i)) (FP.fsub (mFS S 0 (3 + i)) (mFS S 0 i))) (y := en) (tgt := 173) hx hb dX4_enters_164 dX4_enters_165 (by decide) (fun h11 => ?_) (fun h11 => ?_)
            · skip
              refine lv_fload_n hx hb dX4_enters_173 rfl (lv_at hl 9 rfl) ?_
              exact K8 en _ _ (by rw [if_neg (by rw [h11]; decide)]) hw hS
            · skip
              refine lv_fload hx hb dX4_enters_168 (lv_at hl 1 rfl) ?_
              refine lv_goto (tgt := 174) hx hb dX4_enters_170 (by decide) ?_
              exact K8 (if fGt (FP.fdiv (FP.fsub (mFS S 2 (6 * b + i)) (mFS S 0 i)) (FP.fsub (mFS S 0 (3 + i)) (mFS S 0 i))) (FP.fdiv (FP.fsub (mFS S 2 (6 * b + 3 + i)) (mFS S 0 i)) (FP.fsub (mFS S 0 (3 + i)) (mFS S 0 i))) = true then FP.fdiv (FP.fsub (mFS S 2 (6 * b + 3 + i)) (mFS S 0 i)) (FP.fsub (mFS S 0 (3 + i)) (mFS S 0 i)) else FP.fdiv (FP.fsub (mFS S 2 (6 * b + i)) (mFS S 0 i)) (FP.fsub (mFS S 0 (3 + i)) (mFS S 0 i))) _ _ (by rw [if_pos h11]) hw hS
          refine lv_fload hx hb dX4_enters_144 (lv_at hl 2 rfl) ?_
          refine lv_fload hx hb dX4_enters_146 (lv_at hl 1 rfl) ?_
          refine fc_lle (x := FP.fdiv (FP.fsub (mFS S 2 (6 * b + i)) (mFS S 0 i)) (FP.fsub (mFS S 0 (3 + i)) (mFS S 0 i))) (y := FP.fdiv (FP.fsub (mFS S 2 (6 * b + 3 + i)) (mFS S 0 i)) (FP.fsub (mFS S 0 (3 + i)) (mFS S 0 i))) (tgt := 157) hx hb dX4_enters_148 dX4_enters_149 (by decide) (fun h12 => ?_) (fun h12 => ?_)
          · skip
            refine lv_fload hx hb dX4_enters_157 (lv_at hl 1 rfl) ?_
            exact K7 (FP.fdiv (FP.fsub (mFS S 2 (6 * b + 3 + i)) (mFS S 0 i)) (FP.fsub (mFS S 0 (3 + i)) (mFS S 0 i))) _ _ (by rw [if_neg (by rw [h12]; decide)]) hw hS
          · skip
            refine lv_fload hx hb dX4_enters_152 (lv_at hl 2 rfl) ?_
            refine lv_goto (tgt := 159) hx hb dX4_enters_154 (by decide) ?_
            exact K7 (FP.fdiv (FP.fsub (mFS S 2 (6 * b + i)) (mFS S 0 i)) (FP.fsub (mFS S 0 (3 + i)) (mFS S 0 i))) _ _ (by rw [if_pos h12]) hw hS
        refine lv_fload hx hb dX4_enters_127 (lv_at hl 1 rfl) ?_
        refine lv_fload hx hb dX4_enters_129 (lv_at hl 0 rfl) ?_
        refine fc_lle (x := FP.fdiv (FP.fsub (mFS S 2 (6 * b + i)) (mFS S 0 i)) (FP.fsub (mFS S 0 (3 + i)) (mFS S 0 i))) (y := FP.fdiv (FP.fsub (mFS S 2 (6 * b + 3 + i)) (mFS S 0 i)) (FP.fsub (mFS S 0 (3 + i)) (mFS S 0 i))) (tgt := 140) hx hb dX4_enters_131 dX4_enters_132 (by decide) (fun h13 => ?_) (fun h13 => ?_)
        · skip
          refine lv_fload hx hb dX4_enters_140 (lv_at hl 1 rfl) ?_
          exact K6 (FP.fdiv (FP.fsub (mFS S 2 (6 * b + i)) (mFS S 0 i)) (FP.fsub (mFS S 0 (3 + i)) (mFS S 0 i))) _ _ (by rw [if_neg (by rw [h13]; decide)]) hw hS
        · skip
          refine lv_fload hx hb dX4_enters_135 (lv_at hl 0 rfl) ?_
          refine lv_goto (tgt := 142) hx hb dX4_enters_137 (by decide) ?_
          exact K6 (FP.fdiv (FP.fsub (mFS S 2 (6 * b + 3 + i)) (mFS S 0 i)) (FP.fsub (mFS S 0 (3 + i)) (mFS S 0 i))) _ _ (by rw [if_pos h13]) hw hS
      · skip
        have K14 : ∀ (b9 : Bool) (H : Heap) (locs : List Loc), b9 = (ok && (fGe (mFS S 0 i) (mFS S 2 (6 * b + i)) && fLe (mFS S 0 i) (mFS S 2 (6 * b + 3 + i)))) → wdM G S H s → va_S (g_A G) s.heap H locs → W p l e ({ frames := 0, cells := 0, slots := 0, locals := 0 } : Room) s m ([.ref (g_ad G 9 0), .int (nI b)] : List Value).toArray below meth c H locs 0 0 (MQ below (Qf G (enM S b) S) ([.ref (g_ad G 9 0), .int (nI b)] : List Value).toArray s ({ frames := 0, cells := 0, slots := 0, locals := 0 } : Room).cells ({ frames := 0, cells := 0, slots := 0, locals := 0 } : Room).slots (g_A G)) (F0 m 102 ls [.int (bI b9)]) := by
          intro b9 H locs hb9 hw hS
          subst hb9
          refine lv_istore (lv' := [(4, .int (bI (ok && (fGe (mFS S 0 i) (mFS S 2 (6 * b + i)) && fLe (mFS S 0 i) (mFS S 2 (6 * b + 3 + i)))))), (9, .float (mFS S 2 (6 * b + 3 + i))), (8, .float (mFS S 2 (6 * b + i))), (7, .float (FP.fsub (mFS S 0 (3 + i)) (mFS S 0 i))), (6, .float (mFS S 0 i)), (5, .int (nI i)), (2, .float en), (3, .float lv), (0, .ref (g_ad G 9 0)), (1, .int (nI b))]) hx hb dX4_enters_102 hl (by decide) rfl (fun ls hl => ?_)
          refine lv_goto (tgt := 189) hx hb dX4_enters_104 (by decide) ?_
          refine lv_iinc (v := nI (i + 1)) (lv' := [(5, .int (nI (i + 1))), (4, .int (bI (ok && (fGe (mFS S 0 i) (mFS S 2 (6 * b + i)) && fLe (mFS S 0 i) (mFS S 2 (6 * b + 3 + i)))))), (9, .float (mFS S 2 (6 * b + 3 + i))), (8, .float (mFS S 2 (6 * b + i))), (7, .float (FP.fsub (mFS S 0 (3 + i)) (mFS S 0 i))), (6, .float (mFS S 0 i)), (2, .float en), (3, .float lv), (0, .ref (g_ad G 9 0)), (1, .int (nI b))]) hx hb dX4_enters_189 hl (k := 5) rfl (nI_add i 1) (by decide) rfl (fun ls hl => ?_)
          refine lv_goto (tgt := 10) hx hb dX4_enters_192 (by decide) ?_
          exact ih (i + 1) en lv (ok && (fGe (mFS S 0 i) (mFS S 2 (6 * b + i)) && fLe (mFS S 0 i) (mFS S 2 (6 * b + 3 + i)))) H locs ls (by omega) ((eR_z h5).symm.trans hq) hw hS (lv_sub hl [0, 6, 7, 1, 8, 9] rfl)
        refine lv_iload hx hb dX4_enters_76 (lv_at hl 7 rfl) ?_
        refine lv_if_eq (tgt := 101) hx hb dX4_enters_78 (by decide) (fun h15 => ?_) (fun h15 => ?_)
        · skip
          have h15 := bI_0.mp h15
          refine lv_iconst (v := nI 0) hx hb dX4_enters_101 (by decide) ?_
          refine top_i (y := bI false) (by decide) ?_
          exact K14 false _ _ (by first | (simp only [h15, Bool.true_and, Bool.false_and, Bool.and_true, Bool.and_false]; done) | simp [h15]) hw hS
        · skip
          have h15 := bI_n0.mp h15
          refine lv_fload hx hb dX4_enters_81 (lv_at hl 3 rfl) ?_
          refine lv_fload hx hb dX4_enters_83 (lv_at hl 1 rfl) ?_
          refine fc_llt (x := mFS S 0 i) (y := mFS S 2 (6 * b + i)) (tgt := 101) hx hb dX4_enters_85 dX4_enters_86 (by decide) (fun h16 => ?_) (fun h16 => ?_)
          · skip
            refine lv_iconst (v := nI 0) hx hb dX4_enters_101 (by decide) ?_
            refine top_i (y := bI false) (by decide) ?_
            exact K14 false _ _ (by first | (simp only [h15, h16, Bool.true_and, Bool.false_and, Bool.and_true, Bool.and_false]; done) | simp [h15, h16]) hw hS
          · skip
            refine lv_fload hx hb dX4_enters_89 (lv_at hl 3 rfl) ?_
            refine lv_fload hx hb dX4_enters_91 (lv_at hl 0 rfl) ?_
            refine fc_ggt (x := mFS S 0 i) (y := mFS S 2 (6 * b + 3 + i)) (tgt := 101) hx hb dX4_enters_93 dX4_enters_94 (by decide) (fun h17 => ?_) (fun h17 => ?_)
            · skip
              refine lv_iconst (v := nI 0) hx hb dX4_enters_101 (by decide) ?_
              refine top_i (y := bI false) (by decide) ?_
              exact K14 false _ _ (by first | (simp only [h15, h16, h17, Bool.true_and, Bool.false_and, Bool.and_true, Bool.and_false]; done) | simp [h15, h16, h17]) hw hS
            · skip
              refine lv_iconst (v := nI 1) hx hb dX4_enters_97 (by decide) ?_
              refine lv_goto (tgt := 102) hx hb dX4_enters_98 (by decide) ?_
              refine top_i (y := bI true) (by decide) ?_
              exact K14 true _ _ (by first | (simp only [h15, h16, h17, Bool.true_and, Bool.false_and, Bool.and_true, Bool.and_false]; done) | simp [h15, h16, h17]) hw hS
  exact LOOP 3 0 FP.fconst0 FP.fconst1 true _ _ ls (by omega) rfl hw hS (lv_sub hl [0, 3, 2, 1, 4, 5] rfl)
set_option maxRecDepth 100000 in
set_option maxHeartbeats 1000000 in
theorem m_meeting (l : Launch) (G : Gm) (S : St) (hn0 : ∀ b, b < 512 → nN (mFS S 2) (mFS S 0) b) (mask : Int32) : Pi l yX4_meeting wsX4_meeting ({ frames := 1, cells := 0, slots := 0, locals := 33 } : Room) [.ref (g_ad G 9 0), .int mask] G S (mnS (meM mask 512 0 (fzM (nrMS S)) 0) 2) (meM mask 512 0 (fzM (nrMS S)) 0) := by
  refine ent (cc := cX4_meeting) (maxL := 4) (ret := (some .int)) (by decide) rfl (Nat.le_of_ble_eq_true rfl) ?_
  intro p e s m below meth c ls C hw hT hS hl
  obtain ⟨hx, hb, hr, hml, hown, hts, hlk⟩ := C
  have hl : lv_has ls 4 [(0, .ref (g_ad G 9 0)), (1, .int mask)] := hl
  refine lv_aload_n hx hb dX4_meeting_0 rfl (lv_at hl 0 rfl) ?_
  refine lv_iconst (v := nI 0) hx hb dX4_meeting_1 (by decide) ?_
  refine pf (S' := (mnU S (va_up (mnS S) 0 (nI 0)))) hx hb hown hts hw hT hS 9 0 (by decide) (ci := 4) rfl rfl (fun _ h => List.mem_cons_of_mem _ (List.mem_append_right _ h)) tyX4 tyX4_ok nmX4 0 (by decide) (List.mem_of_getElem? (i := 1) rfl) rfl (ty := .int) (by decide +kernel) (vp_nar_int _) rfl (Nat.le_of_ble_eq_true rfl) (mup_mn0 G S (nI 0)) dX4_meeting_2 (fun H locs hw hS => ?_)
  have hw : wdM G (nrMS S) H s := hw
  refine lv_aload_n hx hb dX4_meeting_5 rfl (lv_at hl 0 rfl) ?_
  refine lv_iconst (v := nI 0) hx hb dX4_meeting_6 (by decide) ?_
  refine pf (S' := (mnU (nrMS S) (va_up (mnS (nrMS S)) 2 (nI 0)))) hx hb hown hts hw hT hS 9 0 (by decide) (ci := 4) rfl rfl (fun _ h => List.mem_cons_of_mem _ (List.mem_append_right _ h)) tyX4 tyX4_ok nmX4 13 (by decide) (List.mem_of_getElem? (i := 2) rfl) rfl (ty := .int) (by decide +kernel) (vp_nar_int _) rfl (Nat.le_of_ble_eq_true rfl) (mup_mn2 G (nrMS S) (nI 0)) dX4_meeting_7 (fun H locs hw hS => ?_)
  have hw : wdM G (fzM (nrMS S)) H s := hw
  refine lv_iconst (v := nI 0) hx hb dX4_meeting_10 (by decide) ?_
  refine lv_istore_n (lv' := [(2, .int (nI 0)), (0, .ref (g_ad G 9 0)), (1, .int mask)]) hx hb dX4_meeting_11 rfl hl (by decide) rfl (fun ls hl => ?_)
  have LOOP : ∀ (n b : Nat) (S2 : St) (cn : Nat) (H : Heap) (locs : List Loc) (ls : Array Slot), b + n = 512 → (meM mask n b S2 cn = meM mask 512 0 (fzM (nrMS S)) 0) → (mnS S2 2 = nI cn) → (cn ≤ b) → (mFS S2 2 = mFS S 2) → (mFS S2 0 = mFS S 0) → wdM G S2 H s → va_S (g_A G) s.heap H locs → lv_has ls 4 [(2, .int (nI b)), (0, .ref (g_ad G 9 0)), (1, .int mask)] → W p l e ({ frames := 1, cells := 0, slots := 0, locals := 33 } : Room) s m ([.ref (g_ad G 9 0), .int mask] : List Value).toArray below meth c H locs 0 0 (MQ below (Qi G (mnS (meM mask 512 0 (fzM (nrMS S)) 0) 2) (meM mask 512 0 (fzM (nrMS S)) 0)) ([.ref (g_ad G 9 0), .int mask] : List Value).toArray s ({ frames := 1, cells := 0, slots := 0, locals := 33 } : Room).cells ({ frames := 1, cells := 0, slots := 0, locals := 33 } : Room).slots (g_A G)) (F0 m 12 ls []) := by
    intro n
    induction n with
    | zero =>
      intro b S2 cn H locs ls hn hq hcn hcb hb2 hb0 hw hS hl
      obtain rfl : 512 = b := by omega
      refine lv_iload_n hx hb dX4_meeting_12 rfl (lv_at hl 0 rfl) ?_
      refine lv_sipush (v := nI 512) hx hb dX4_meeting_13 (by decide) ?_
      refine lv_icmp_ge (tgt := 91) hx hb dX4_meeting_16 (by decide) (fun _ => ?_) (fun q => absurd (by decide) q)
      refine lv_aload_n hx hb dX4_meeting_91 rfl (lv_at hl 1 rfl) ?_
      refine gf hx hb hown hts hw hT 9 0 (by decide) (ci := 4) rfl rfl (fun _ h => List.mem_cons_of_mem _ (List.mem_append_right _ h)) 13 (by decide) (List.mem_of_getElem? (i := 2) rfl) (v := .int (mnS S2 2)) rfl dX4_meeting_92 ?_
      refine top_i (y := nI cn) hcn ?_
      exact ri hx hb hlk hr (by rw [← hq]; exact hw) hS (by rw [← hq]; exact hcn.symm) (vp_nar_int _) (Nat.le_of_ble_eq_true rfl) (Nat.le_of_ble_eq_true rfl) dX4_meeting_95
    | succ n ih =>
      intro b S2 cn H locs ls hn hq hcn hcb hb2 hb0 hw hS hl
      have hb9 : b < 512 := by omega
      refine lv_iload_n hx hb dX4_meeting_12 rfl (lv_at hl 0 rfl) ?_
      refine lv_sipush (v := nI 512) hx hb dX4_meeting_13 (by decide) ?_
      refine lv_icmp_ge (tgt := 91) hx hb dX4_meeting_16 (by decide) (fun q => absurd q (nI_ge hb9 (by decide))) (fun _ => ?_)
      have K3 : ∀ (b9 : UInt32) (H : Heap) (locs : List Loc), b9 = (mtX S2 mask b) → wdM G S2 H s → va_S (g_A G) s.heap H locs → W p l e ({ frames := 1, cells := 0, slots := 0, locals := 33 } : Room) s m ([.ref (g_ad G 9 0), .int mask] : List Value).toArray below meth c H locs 0 0 (MQ below (Qi G (mnS (meM mask 512 0 (fzM (nrMS S)) 0) 2) (meM mask 512 0 (fzM (nrMS S)) 0)) ([.ref (g_ad G 9 0), .int mask] : List Value).toArray s ({ frames := 1, cells := 0, slots := 0, locals := 33 } : Room).cells ({ frames := 1, cells := 0, slots := 0, locals := 33 } : Room).slots (g_A G)) (F0 m 48 ls [.float b9]) := by
        intro b9 H locs hb9 hw hS
        subst hb9
        refine lv_fstore_n (lv' := [(3, .float (mtX S2 mask b)), (2, .int (nI b)), (0, .ref (g_ad G 9 0)), (1, .int mask)]) hx hb dX4_meeting_48 rfl hl (by decide) rfl (fun ls hl => ?_)
        refine lv_fload_n hx hb dX4_meeting_49 rfl (lv_at hl 0 rfl) ?_
        refine lv_fconst1 hx hb dX4_meeting_50 ?_
        refine fc_ggt (x := mtX S2 mask b) (y := FP.fconst1) (tgt := 85) hx hb dX4_meeting_51 dX4_meeting_52 (by decide) (fun h4 => ?_) (fun h4 => ?_)
        · skip
          refine lv_iinc (v := nI (b + 1)) (lv' := [(2, .int (nI (b + 1))), (3, .float (mtX S2 mask b)), (0, .ref (g_ad G 9 0)), (1, .int mask)]) hx hb dX4_meeting_85 hl (k := 1) rfl (nI_add b 1) (by decide) rfl (fun ls hl => ?_)
          refine lv_goto (tgt := 12) hx hb dX4_meeting_88 (by decide) ?_
          exact ih (b + 1) S2 cn H locs ls (by omega) (by rw [← hq, meM, if_neg (by rw [h4]; decide)]) hcn (by omega) hb2 hb0 hw hS (lv_sub hl [0, 2, 3] rfl)
        · skip
          refine lv_aload_n hx hb dX4_meeting_55 rfl (lv_at hl 2 rfl) ?_
          refine gf hx hb hown hts hw hT 9 0 (by decide) (ci := 4) rfl rfl (fun _ h => List.mem_cons_of_mem _ (List.mem_append_right _ h)) 14 (by decide) (List.mem_of_getElem? (i := 5) rfl) (v := .ref (g_ad G 11 6)) rfl dX4_meeting_56 ?_
          refine lv_aload_n hx hb dX4_meeting_59 rfl (lv_at hl 2 rfl) ?_
          refine gf hx hb hown hts hw hT 9 0 (by decide) (ci := 4) rfl rfl (fun _ h => List.mem_cons_of_mem _ (List.mem_append_right _ h)) 13 (by decide) (List.mem_of_getElem? (i := 2) rfl) (v := .int (mnS S2 2)) rfl dX4_meeting_60 ?_
          refine top_i (y := nI cn) hcn ?_
          refine lv_iload_n hx hb dX4_meeting_63 rfl (lv_at hl 1 rfl) ?_
          refine ais (S' := (mIU S2 (va_up (mIS S2) 6 (va_up (mIS S2 6) cn (nI b))))) hx hb hw hT hS 11 6 (by decide) (f := mIS S2 6) rfl cn (show cn < 512 by omega) (by decide) (mup_mI G S2 6 (va_up (mIS S2 6) cn (nI b))) dX4_meeting_64 (fun H locs hw hS => ?_)
          refine lv_aload_n hx hb dX4_meeting_65 rfl (lv_at hl 2 rfl) ?_
          refine gf hx hb hown hts hw hT 9 0 (by decide) (ci := 4) rfl rfl (fun _ h => List.mem_cons_of_mem _ (List.mem_append_right _ h)) 15 (by decide) (List.mem_of_getElem? (i := 6) rfl) (v := .ref (g_ad G 10 3)) rfl dX4_meeting_66 ?_
          refine lv_aload_n hx hb dX4_meeting_69 rfl (lv_at hl 2 rfl) ?_
          refine gf hx hb hown hts hw hT 9 0 (by decide) (ci := 4) rfl rfl (fun _ h => List.mem_cons_of_mem _ (List.mem_append_right _ h)) 13 (by decide) (List.mem_of_getElem? (i := 2) rfl) (v := .int (mnS S2 2)) rfl dX4_meeting_70 ?_
          refine top_i (y := nI cn) hcn ?_
          refine lv_fload_n hx hb dX4_meeting_73 rfl (lv_at hl 0 rfl) ?_
          refine afs (S' := (mFU (mIU S2 (va_up (mIS S2) 6 (va_up (mIS S2 6) cn (nI b)))) (va_up (mFS (mIU S2 (va_up (mIS S2) 6 (va_up (mIS S2 6) cn (nI b))))) 3 (va_up (mFS S2 3) cn (mtX S2 mask b))))) hx hb hw hT hS 10 3 (by decide) (f := mFS S2 3) rfl cn (show cn < 512 by omega) (by decide) (mup_mF G (mIU S2 (va_up (mIS S2) 6 (va_up (mIS S2 6) cn (nI b)))) 3 (va_up (mFS S2 3) cn (mtX S2 mask b))) dX4_meeting_74 (fun H locs hw hS => ?_)
          refine lv_aload_n hx hb dX4_meeting_75 rfl (lv_at hl 2 rfl) ?_
          refine lv_dup hx hb dX4_meeting_76 rfl ?_
          refine gf hx hb hown hts hw hT 9 0 (by decide) (ci := 4) rfl rfl (fun _ h => List.mem_cons_of_mem _ (List.mem_append_right _ h)) 13 (by decide) (List.mem_of_getElem? (i := 2) rfl) (v := .int (mnS S2 2)) rfl dX4_meeting_77 ?_
          refine top_i (y := nI cn) hcn ?_
          refine lv_iconst (v := nI 1) hx hb dX4_meeting_80 (by decide) ?_
          refine lv_iadd hx hb dX4_meeting_81 ?_
          refine top_i (y := nI (cn + 1)) (nI_add cn 1) ?_
          refine pf (S' := (mnU (mFU (mIU S2 (va_up (mIS S2) 6 (va_up (mIS S2 6) cn (nI b)))) (va_up (mFS (mIU S2 (va_up (mIS S2) 6 (va_up (mIS S2 6) cn (nI b))))) 3 (va_up (mFS S2 3) cn (mtX S2 mask b)))) (va_up (mnS (mFU (mIU S2 (va_up (mIS S2) 6 (va_up (mIS S2 6) cn (nI b)))) (va_up (mFS (mIU S2 (va_up (mIS S2) 6 (va_up (mIS S2 6) cn (nI b))))) 3 (va_up (mFS S2 3) cn (mtX S2 mask b))))) 2 (nI (cn + 1))))) hx hb hown hts hw hT hS 9 0 (by decide) (ci := 4) rfl rfl (fun _ h => List.mem_cons_of_mem _ (List.mem_append_right _ h)) tyX4 tyX4_ok nmX4 13 (by decide) (List.mem_of_getElem? (i := 2) rfl) rfl (ty := .int) (by decide +kernel) (vp_nar_int _) rfl (Nat.le_of_ble_eq_true rfl) (mup_mn2 G (mFU (mIU S2 (va_up (mIS S2) 6 (va_up (mIS S2 6) cn (nI b)))) (va_up (mFS (mIU S2 (va_up (mIS S2) 6 (va_up (mIS S2 6) cn (nI b))))) 3 (va_up (mFS S2 3) cn (mtX S2 mask b)))) (nI (cn + 1))) dX4_meeting_82 (fun H locs hw hS => ?_)
          refine lv_iinc (v := nI (b + 1)) (lv' := [(2, .int (nI (b + 1))), (3, .float (mtX S2 mask b)), (0, .ref (g_ad G 9 0)), (1, .int mask)]) hx hb dX4_meeting_85 hl (k := 1) rfl (nI_add b 1) (by decide) rfl (fun ls hl => ?_)
          refine lv_goto (tgt := 12) hx hb dX4_meeting_88 (by decide) ?_
          have hw : wdM G (fnM S2 cn b (mtX S2 mask b)) H s := hw
          exact ih (b + 1) (fnM S2 cn b (mtX S2 mask b)) (cn + 1) H locs ls (by omega) (by rw [← hq, meM, if_pos h4]) (fnM_c _ _ _ _) (by omega) ((fnM_f _ _ _ _ (by decide)).trans hb2) ((fnM_f _ _ _ _ (by decide)).trans hb0) hw hS (lv_sub hl [0, 2, 3] rfl)
      refine lv_aload_n hx hb dX4_meeting_19 rfl (lv_at hl 1 rfl) ?_
      refine gf hx hb hown hts hw hT 9 0 (by decide) (ci := 4) rfl rfl (fun _ h => List.mem_cons_of_mem _ (List.mem_append_right _ h)) 2 (by decide) (List.mem_of_getElem? (i := 3) rfl) (v := .ref (g_ad G 12 0)) rfl dX4_meeting_20 ?_
      refine lv_iload_n hx hb dX4_meeting_23 rfl (lv_at hl 0 rfl) ?_
      refine azl hx hb hw hT 12 0 (by decide) (f := (fun q => bI (mZS S2 0 q))) rfl b (show b < 512 by omega) (by decide) dX4_meeting_24 ?_
      refine lv_if_eq (tgt := 47) hx hb dX4_meeting_25 (by decide) (fun h5 => ?_) (fun h5 => ?_)
      · skip
        have h5 := bI_0.mp h5
        refine lv_fconst2 hx hb dX4_meeting_47 ?_
        exact K3 FP.fconst2 _ _ (by unfold mtX; rw [if_neg (by simp [h5])]) hw hS
      · skip
        have h5 := bI_n0.mp h5
        refine lv_aload_n hx hb dX4_meeting_28 rfl (lv_at hl 1 rfl) ?_
        refine gf hx hb hown hts hw hT 9 0 (by decide) (ci := 4) rfl rfl (fun _ h => List.mem_cons_of_mem _ (List.mem_append_right _ h)) 4 (by decide) (List.mem_of_getElem? (i := 4) rfl) (v := .ref (g_ad G 11 0)) rfl dX4_meeting_29 ?_
        refine lv_iload_n hx hb dX4_meeting_32 rfl (lv_at hl 0 rfl) ?_
        refine ail hx hb hw hT 11 0 (by decide) (f := mIS S2 0) rfl b (show b < 512 by omega) (by decide) dX4_meeting_33 ?_
        refine lv_iload_n hx hb dX4_meeting_34 rfl (lv_at hl 2 rfl) ?_
        refine lv_iand hx hb dX4_meeting_35 ?_
        refine lv_if_eq (tgt := 47) hx hb dX4_meeting_36 (by decide) (fun h6 => ?_) (fun h6 => ?_)
        · skip
          refine lv_fconst2 hx hb dX4_meeting_47 ?_
          exact K3 FP.fconst2 _ _ (by unfold mtX; rw [if_neg (by simp [h5, h6])]) hw hS
        · skip
          refine lv_aload_n hx hb dX4_meeting_39 rfl (lv_at hl 1 rfl) ?_
          refine lv_iload_n hx hb dX4_meeting_40 rfl (lv_at hl 0 rfl) ?_
          refine cVf ⟨hx, hb, hml, hown, hts⟩ (m_enters l G S2 b (by omega) (by rw [hb2, hb0]; exact hn0 b (by omega))) (cwV 1 hts gX4_meeting_X4_enters rfl rfl rfl (by decide +kernel) ⟨(Nat.le_of_ble_eq_true rfl), (Nat.le_of_ble_eq_true rfl)⟩) hw hT hS (rcv hw hT 9 0 (by decide) rfl rfl) (As := [.int (nI b)]) (rest := []) rfl hl.1 rfl (Nat.le_of_ble_eq_true rfl) dX4_meeting_41 ⟨(Nat.le_of_ble_eq_true rfl), (Nat.le_of_ble_eq_true rfl)⟩ (fun H locs hw hS => ?_)
          refine lv_goto (tgt := 48) hx hb dX4_meeting_44 (by decide) ?_
          exact K3 (enM S2 b) _ _ (by unfold mtX; rw [if_pos (by simp [h5, h6])]) hw hS
  exact LOOP 512 0 ((fzM (nrMS S))) 0 _ _ ls (by omega) rfl (fzM_c _) (by omega) rfl rfl hw hS (lv_sub hl [0, 1, 2] rfl)
