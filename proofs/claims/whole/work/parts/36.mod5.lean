/-! The model: look, update -/
def zrS (S : St) (i : Nat) : St := mIU S (va_up (mIS S) 3 (va_up (mIS S 3) i (nI 0)))
def zrR : Nat → Nat → St → St
  | 0, _, S => S
  | n + 1, i, S => zrR n (i + 1) (zrS S i)
def obS (S : St) (a b : Nat) : St := mIU S (va_up (mIS S) 3 (va_up (mIS S 3) (16 * a + b / 32) ((mIS S 3 (16 * a + b / 32)) ||| (nI 1 <<< ((nI (b % 32)) &&& 31)))))
def lkB (S : St) (a b : Nat) : Bool := mZS S 0 a && (mZS S 0 b && (thF S a b && ovM (mFS S 2) a b))
def lkI (a : Nat) : Nat → Nat → St → St
  | 0, _, S => S
  | n + 1, b, S => lkI a n (b + 1) (if lkB S a b = true then obS S a b else S)
theorem lk_f {S : St} {a : Nat} (h : mZS S 0 a = false) : ∀ n b, lkI a n b S = S
  | 0, _ => rfl
  | n + 1, b => by
    rw [lkI, if_neg (by simp [lkB, h])]
    exact lk_f h n (b + 1)
def lkO : Nat → Nat → St → St
  | 0, _, S => S
  | n + 1, a, S => lkO n (a + 1) (lkI a (511 - a) (a + 1) S)
def lkS (S : St) : St := lkO 512 0 (zrR 8192 0 S)
def udA (S : St) (i : Nat) : St := mIU S (va_up (mIS S) 4 (va_up (mIS S 4) i ((mIS S 3 i) &&& ((mIS S 2 i) ^^^ (-1)))))
def udB (S : St) (i : Nat) : St := mIU (udA S i) (va_up (mIS (udA S i)) 5 (va_up (mIS S 5) i ((mIS S 2 i) &&& ((mIS S 3 i) ^^^ (-1)))))
def udS (S : St) (i : Nat) : St := mIU (udB S i) (va_up (mIS (udB S i)) 2 (va_up (mIS S 2) i (mIS S 3 i)))
def udR : Nat → Nat → St → St
  | 0, _, S => S
  | n + 1, i, S => udR n (i + 1) (udS S i)
def utS (S : St) (i : Nat) : St := mZU S (va_up (mZS S) 1 (va_up (mZS S 1) i false))
def utR : Nat → Nat → St → St
  | 0, _, S => S
  | n + 1, i, S => utR n (i + 1) (utS S i)
def uuS (S : St) : St := mnU S (va_up (mnS S) 1 (mnS S 1 + nI 1))
def uoB (S : St) : Bool := !(decide (nI 16384 < biF (mIS (lkS S) 3) 8192))
def udMS (S : St) : St := if (uoB S && true) = true then uuS (utR 512 0 (udR 8192 0 (okS (lkS S)))) else gsS (lkS S) (uoB S) true
def udMI (S : St) : Int32 := if (uoB S && true) = true then biF (mIS (lkS S) 3) 8192 else nI 0
set_option maxRecDepth 100000 in
set_option maxHeartbeats 1000000 in
theorem m_look (l : Launch) (G : Gm) (S : St)  : Pv l yX4_look wsX4_look ({ frames := 1, cells := 0, slots := 0, locals := 24 } : Room) [.ref (g_ad G 9 0)] G S (lkS S) := by
  refine ent (cc := cX4_look) (maxL := 3) (ret := none) (by decide) rfl (Nat.le_of_ble_eq_true rfl) ?_
  intro p e s m below meth c ls C hw hT hS hl
  obtain ⟨hx, hb, hr, hml, hown, hts, hlk⟩ := C
  have hl : lv_has ls 3 [(0, .ref (g_ad G 9 0))] := hl
  refine lv_iconst (v := nI 0) hx hb dX4_look_0 (by decide) ?_
  refine lv_istore_n (lv' := [(1, .int (nI 0)), (0, .ref (g_ad G 9 0))]) hx hb dX4_look_1 rfl hl (by decide) rfl (fun ls hl => ?_)
  have LOOP : ∀ (n i : Nat) (S2 : St) (H : Heap) (locs : List Loc) (ls : Array Slot), i + n = 8192 → (zrR n i S2 = zrR 8192 0 S) → wdM G S2 H s → va_S (g_A G) s.heap H locs → lv_has ls 3 [(1, .int (nI i)), (0, .ref (g_ad G 9 0))] → W p l e ({ frames := 1, cells := 0, slots := 0, locals := 24 } : Room) s m ([.ref (g_ad G 9 0)] : List Value).toArray below meth c H locs 0 0 (MQ below (Qv G (lkS S)) ([.ref (g_ad G 9 0)] : List Value).toArray s ({ frames := 1, cells := 0, slots := 0, locals := 24 } : Room).cells ({ frames := 1, cells := 0, slots := 0, locals := 24 } : Room).slots (g_A G)) (F0 m 2 ls []) := by
    intro n
    induction n with
    | zero =>
      intro i S2 H locs ls hn hq hw hS hl
      obtain rfl : 8192 = i := by omega
      refine lv_iload_n hx hb dX4_look_2 rfl (lv_at hl 0 rfl) ?_
      refine lv_sipush (v := nI 8192) hx hb dX4_look_3 (by decide) ?_
      refine lv_icmp_ge (tgt := 22) hx hb dX4_look_6 (by decide) (fun _ => ?_) (fun q => absurd (by decide) q)
      have hq0 : S2 = zrR 8192 0 S := hq
      refine lv_iconst (v := nI 0) hx hb dX4_look_22 (by decide) ?_
      refine lv_istore_n (lv' := [(1, .int (nI 0)), (0, .ref (g_ad G 9 0))]) hx hb dX4_look_23 rfl hl (by decide) rfl (fun ls hl => ?_)
      have LOOP2 : ∀ (n2 a : Nat) (S3 : St) (H : Heap) (locs : List Loc) (ls : Array Slot), a + n2 = 512 → (lkO n2 a S3 = lkO 512 0 S2) → wdM G S3 H s → va_S (g_A G) s.heap H locs → lv_has ls 3 [(1, .int (nI a)), (0, .ref (g_ad G 9 0))] → W p l e ({ frames := 1, cells := 0, slots := 0, locals := 24 } : Room) s m ([.ref (g_ad G 9 0)] : List Value).toArray below meth c H locs 0 0 (MQ below (Qv G (lkS S)) ([.ref (g_ad G 9 0)] : List Value).toArray s ({ frames := 1, cells := 0, slots := 0, locals := 24 } : Room).cells ({ frames := 1, cells := 0, slots := 0, locals := 24 } : Room).slots (g_A G)) (F0 m 24 ls []) := by
        intro n2
        induction n2 with
        | zero =>
          intro a S3 H locs ls hn2 hq2 hw hS hl
          obtain rfl : 512 = a := by omega
          refine lv_iload_n hx hb dX4_look_24 rfl (lv_at hl 0 rfl) ?_
          refine lv_sipush (v := nI 512) hx hb dX4_look_25 (by decide) ?_
          refine lv_icmp_ge (tgt := 125) hx hb dX4_look_28 (by decide) (fun _ => ?_) (fun q => absurd (by decide) q)
          exact rv hx hb hlk hr (by unfold lkS; rw [← hq0, ← hq2]; exact hw) hS  (Nat.le_of_ble_eq_true rfl) (Nat.le_of_ble_eq_true rfl) dX4_look_125
        | succ n2 ih =>
          intro a S3 H locs ls hn2 hq2 hw hS hl
          have ha9 : a < 512 := by omega
          refine lv_iload_n hx hb dX4_look_24 rfl (lv_at hl 0 rfl) ?_
          refine lv_sipush (v := nI 512) hx hb dX4_look_25 (by decide) ?_
          refine lv_icmp_ge (tgt := 125) hx hb dX4_look_28 (by decide) (fun q => absurd q (nI_ge ha9 (by decide))) (fun _ => ?_)
          refine lv_iload_n hx hb dX4_look_31 rfl (lv_at hl 0 rfl) ?_
          refine lv_iconst (v := nI 1) hx hb dX4_look_32 (by decide) ?_
          refine lv_iadd hx hb dX4_look_33 ?_
          refine top_i (y := nI (a + 1)) (nI_add a 1) ?_
          refine lv_istore_n (lv' := [(2, .int (nI (a + 1))), (1, .int (nI a)), (0, .ref (g_ad G 9 0))]) hx hb dX4_look_34 rfl hl (by decide) rfl (fun ls hl => ?_)
          have LOOP3 : ∀ (n3 b : Nat) (S4 : St) (H : Heap) (locs : List Loc) (ls : Array Slot), b + n3 = 512 → (lkI a n3 b S4 = lkI a (511 - a) (a + 1) S3) → wdM G S4 H s → va_S (g_A G) s.heap H locs → lv_has ls 3 [(2, .int (nI b)), (1, .int (nI a)), (0, .ref (g_ad G 9 0))] → W p l e ({ frames := 1, cells := 0, slots := 0, locals := 24 } : Room) s m ([.ref (g_ad G 9 0)] : List Value).toArray below meth c H locs 0 0 (MQ below (Qv G (lkS S)) ([.ref (g_ad G 9 0)] : List Value).toArray s ({ frames := 1, cells := 0, slots := 0, locals := 24 } : Room).cells ({ frames := 1, cells := 0, slots := 0, locals := 24 } : Room).slots (g_A G)) (F0 m 35 ls []) := by
            intro n3
            induction n3 with
            | zero =>
              intro b S4 H locs ls hn3 hq3 hw hS hl
              obtain rfl : 512 = b := by omega
              refine lv_iload_n hx hb dX4_look_35 rfl (lv_at hl 0 rfl) ?_
              refine lv_sipush (v := nI 512) hx hb dX4_look_36 (by decide) ?_
              refine lv_icmp_ge (tgt := 119) hx hb dX4_look_39 (by decide) (fun _ => ?_) (fun q => absurd (by decide) q)
              refine lv_iinc (v := nI (a + 1)) (lv' := [(1, .int (nI (a + 1))), (2, .int (nI 512)), (0, .ref (g_ad G 9 0))]) hx hb dX4_look_119 hl (k := 1) rfl (nI_add a 1) (by decide) rfl (fun ls hl => ?_)
              refine lv_goto (tgt := 24) hx hb dX4_look_122 (by decide) ?_
              exact ih (a + 1) S4 H locs ls (by omega) (by rw [← hq2, lkO, ← hq3]; rfl) hw hS (lv_sub hl [0, 2] rfl)
            | succ n3 ih3 =>
              intro b S4 H locs ls hn3 hq3 hw hS hl
              have hb9 : b < 512 := by omega
              refine lv_iload_n hx hb dX4_look_35 rfl (lv_at hl 0 rfl) ?_
              refine lv_sipush (v := nI 512) hx hb dX4_look_36 (by decide) ?_
              refine lv_icmp_ge (tgt := 119) hx hb dX4_look_39 (by decide) (fun q => absurd q (nI_ge hb9 (by decide))) (fun _ => ?_)
              refine lv_aload_n hx hb dX4_look_42 rfl (lv_at hl 2 rfl) ?_
              refine gf hx hb hown hts hw hT 9 0 (by decide) (ci := 4) rfl rfl (fun _ h => List.mem_cons_of_mem _ (List.mem_append_right _ h)) 2 (by decide) (List.mem_of_getElem? (i := 2) rfl) (v := .ref (g_ad G 12 0)) rfl dX4_look_43 ?_
              refine lv_iload_n hx hb dX4_look_46 rfl (lv_at hl 1 rfl) ?_
              refine azl hx hb hw hT 12 0 (by decide) (f := (fun q => bI (mZS S4 0 q))) rfl a (show a < 512 by omega) (by decide) dX4_look_47 ?_
              refine lv_if_eq (tgt := 119) hx hb dX4_look_48 (by decide) (fun h6 => ?_) (fun h6 => ?_)
              · skip
                have h6 := bI_0.mp h6
                refine lv_iinc (v := nI (a + 1)) (lv' := [(1, .int (nI (a + 1))), (2, .int (nI b)), (0, .ref (g_ad G 9 0))]) hx hb dX4_look_119 hl (k := 1) rfl (nI_add a 1) (by decide) rfl (fun ls hl => ?_)
                refine lv_goto (tgt := 24) hx hb dX4_look_122 (by decide) ?_
                exact ih (a + 1) S4 H locs ls (by omega) (by rw [← hq2, lkO, ← hq3, lk_f h6]) hw hS (lv_sub hl [0, 2] rfl)
              · skip
                have h6 := bI_n0.mp h6
                refine lv_aload_n hx hb dX4_look_51 rfl (lv_at hl 2 rfl) ?_
                refine gf hx hb hown hts hw hT 9 0 (by decide) (ci := 4) rfl rfl (fun _ h => List.mem_cons_of_mem _ (List.mem_append_right _ h)) 2 (by decide) (List.mem_of_getElem? (i := 2) rfl) (v := .ref (g_ad G 12 0)) rfl dX4_look_52 ?_
                refine lv_iload_n hx hb dX4_look_55 rfl (lv_at hl 0 rfl) ?_
                refine azl hx hb hw hT 12 0 (by decide) (f := (fun q => bI (mZS S4 0 q))) rfl b (show b < 512 by omega) (by decide) dX4_look_56 ?_
                refine lv_if_eq (tgt := 113) hx hb dX4_look_57 (by decide) (fun h7 => ?_) (fun h7 => ?_)
                · skip
                  have h7 := bI_0.mp h7
                  refine lv_iinc (v := nI (b + 1)) (lv' := [(2, .int (nI (b + 1))), (1, .int (nI a)), (0, .ref (g_ad G 9 0))]) hx hb dX4_look_113 hl (k := 0) rfl (nI_add b 1) (by decide) rfl (fun ls hl => ?_)
                  refine lv_goto (tgt := 35) hx hb dX4_look_116 (by decide) ?_
                  exact ih3 (b + 1) S4 H locs ls (by omega) (by rw [← hq3, lkI, if_neg (by simp [lkB, h6, h7])]) hw hS (lv_sub hl [0, 1, 2] rfl)
                · skip
                  have h7 := bI_n0.mp h7
                  refine lv_aload_n hx hb dX4_look_60 rfl (lv_at hl 2 rfl) ?_
                  refine lv_iload_n hx hb dX4_look_61 rfl (lv_at hl 1 rfl) ?_
                  refine lv_iload_n hx hb dX4_look_62 rfl (lv_at hl 0 rfl) ?_
                  refine cVi ⟨hx, hb, hml, hown, hts⟩ (m_through l G S4 a (by omega) b (by omega)) (cwV 2 hts gX4_look_X4_through rfl rfl rfl (by decide +kernel) ⟨(Nat.le_of_ble_eq_true rfl), (Nat.le_of_ble_eq_true rfl)⟩) hw hT hS (rcv hw hT 9 0 (by decide) rfl rfl) (As := [.int (nI a), .int (nI b)]) (rest := []) rfl hl.1 rfl (Nat.le_of_ble_eq_true rfl) dX4_look_63 ⟨(Nat.le_of_ble_eq_true rfl), (Nat.le_of_ble_eq_true rfl)⟩ (fun H locs hw hS => ?_)
                  refine lv_if_eq (tgt := 113) hx hb dX4_look_66 (by decide) (fun h8 => ?_) (fun h8 => ?_)
                  · skip
                    have h8 := bI_0.mp h8
                    refine lv_iinc (v := nI (b + 1)) (lv' := [(2, .int (nI (b + 1))), (1, .int (nI a)), (0, .ref (g_ad G 9 0))]) hx hb dX4_look_113 hl (k := 0) rfl (nI_add b 1) (by decide) rfl (fun ls hl => ?_)
                    refine lv_goto (tgt := 35) hx hb dX4_look_116 (by decide) ?_
                    exact ih3 (b + 1) S4 H locs ls (by omega) (by rw [← hq3, lkI, if_neg (by simp [lkB, h6, h7, h8])]) hw hS (lv_sub hl [0, 1, 2] rfl)
                  · skip
                    have h8 := bI_n0.mp h8
                    refine lv_aload_n hx hb dX4_look_69 rfl (lv_at hl 2 rfl) ?_
                    refine lv_iload_n hx hb dX4_look_70 rfl (lv_at hl 1 rfl) ?_
                    refine lv_iload_n hx hb dX4_look_71 rfl (lv_at hl 0 rfl) ?_
                    refine cVi ⟨hx, hb, hml, hown, hts⟩ (m_overlap l G S4 a (by omega) b (by omega)) (cwV 2 hts gX4_look_X4_overlap rfl rfl rfl (by decide +kernel) ⟨(Nat.le_of_ble_eq_true rfl), (Nat.le_of_ble_eq_true rfl)⟩) hw hT hS (rcv hw hT 9 0 (by decide) rfl rfl) (As := [.int (nI a), .int (nI b)]) (rest := []) rfl hl.1 rfl (Nat.le_of_ble_eq_true rfl) dX4_look_72 ⟨(Nat.le_of_ble_eq_true rfl), (Nat.le_of_ble_eq_true rfl)⟩ (fun H locs hw hS => ?_)
                    refine lv_if_eq (tgt := 113) hx hb dX4_look_75 (by decide) (fun h9 => ?_) (fun h9 => ?_)
                    · skip
                      have h9 := bI_0.mp h9
                      refine lv_iinc (v := nI (b + 1)) (lv' := [(2, .int (nI (b + 1))), (1, .int (nI a)), (0, .ref (g_ad G 9 0))]) hx hb dX4_look_113 hl (k := 0) rfl (nI_add b 1) (by decide) rfl (fun ls hl => ?_)
                      refine lv_goto (tgt := 35) hx hb dX4_look_116 (by decide) ?_
                      exact ih3 (b + 1) S4 H locs ls (by omega) (by rw [← hq3, lkI, if_neg (by simp [lkB, h6, h7, h8, h9])]) hw hS (lv_sub hl [0, 1, 2] rfl)
                    · skip
                      have h9 := bI_n0.mp h9
                      refine lv_aload_n hx hb dX4_look_78 rfl (lv_at hl 2 rfl) ?_
                      refine gf hx hb hown hts hw hT 9 0 (by decide) (ci := 4) rfl rfl (fun _ h => List.mem_cons_of_mem _ (List.mem_append_right _ h)) 9 (by decide) (List.mem_of_getElem? (i := 1) rfl) (v := .ref (g_ad G 11 3)) rfl dX4_look_79 ?_
                      refine lv_bipush (v := nI 16) hx hb dX4_look_82 (by decide) ?_
                      refine lv_iload_n hx hb dX4_look_84 rfl (lv_at hl 1 rfl) ?_
                      refine lv_imul hx hb dX4_look_85 ?_
                      refine top_i (y := nI (16 * a)) (pk_mul 16 a) ?_
                      refine lv_iload_n hx hb dX4_look_86 rfl (lv_at hl 0 rfl) ?_
                      refine lv_bipush (v := nI 32) hx hb dX4_look_87 (by decide) ?_
                      refine lv_idiv hx hb dX4_look_89 (by decide) ?_
                      refine top_i (y := nI (b / 32)) (pk_div (by omega) (by decide) (by decide)) ?_
                      refine lv_iadd hx hb dX4_look_90 ?_
                      refine top_i (y := nI (16 * a + (b / 32))) (nI_add (16 * a) (b / 32)) ?_
                      refine lv_aload_n hx hb dX4_look_91 rfl (lv_at hl 2 rfl) ?_
                      refine gf hx hb hown hts hw hT 9 0 (by decide) (ci := 4) rfl rfl (fun _ h => List.mem_cons_of_mem _ (List.mem_append_right _ h)) 9 (by decide) (List.mem_of_getElem? (i := 1) rfl) (v := .ref (g_ad G 11 3)) rfl dX4_look_92 ?_
                      refine lv_bipush (v := nI 16) hx hb dX4_look_95 (by decide) ?_
                      refine lv_iload_n hx hb dX4_look_97 rfl (lv_at hl 1 rfl) ?_
                      refine lv_imul hx hb dX4_look_98 ?_
                      refine top_i (y := nI (16 * a)) (pk_mul 16 a) ?_
                      refine lv_iload_n hx hb dX4_look_99 rfl (lv_at hl 0 rfl) ?_
                      refine lv_bipush (v := nI 32) hx hb dX4_look_100 (by decide) ?_
                      refine lv_idiv hx hb dX4_look_102 (by decide) ?_
                      refine top_i (y := nI (b / 32)) (pk_div (by omega) (by decide) (by decide)) ?_
                      refine lv_iadd hx hb dX4_look_103 ?_
                      refine top_i (y := nI (16 * a + (b / 32))) (nI_add (16 * a) (b / 32)) ?_
                      refine ail hx hb hw hT 11 3 (by decide) (f := mIS S4 3) rfl (16 * a + (b / 32)) (show 16 * a + (b / 32) < 8192 by omega) (by decide) dX4_look_104 ?_
                      refine lv_iconst (v := nI 1) hx hb dX4_look_105 (by decide) ?_
                      refine lv_iload_n hx hb dX4_look_106 rfl (lv_at hl 0 rfl) ?_
                      refine lv_bipush (v := nI 32) hx hb dX4_look_107 (by decide) ?_
                      refine lv_irem hx hb dX4_look_109 (by decide) ?_
                      refine top_i (y := nI (b % 32)) (pk_rem (by omega) (by decide) (by decide)) ?_
                      refine lv_ishl hx hb dX4_look_110 ?_
                      refine lv_ior hx hb dX4_look_111 ?_
                      refine ais (S' := (mIU S4 (va_up (mIS S4) 3 (va_up (mIS S4 3) (16 * a + (b / 32)) ((mIS S4 3 (16 * a + (b / 32))) ||| ((nI 1) <<< ((nI (b % 32)) &&& 31))))))) hx hb hw hT hS 11 3 (by decide) (f := mIS S4 3) rfl (16 * a + (b / 32)) (show 16 * a + (b / 32) < 8192 by omega) (by decide) (mup_mI G S4 3 (va_up (mIS S4 3) (16 * a + (b / 32)) ((mIS S4 3 (16 * a + (b / 32))) ||| ((nI 1) <<< ((nI (b % 32)) &&& 31))))) dX4_look_112 (fun H locs hw hS => ?_)
                      refine lv_iinc (v := nI (b + 1)) (lv' := [(2, .int (nI (b + 1))), (1, .int (nI a)), (0, .ref (g_ad G 9 0))]) hx hb dX4_look_113 hl (k := 0) rfl (nI_add b 1) (by decide) rfl (fun ls hl => ?_)
                      refine lv_goto (tgt := 35) hx hb dX4_look_116 (by decide) ?_
                      have hw : wdM G (obS S4 a b) H s := hw
                      exact ih3 (b + 1) (obS S4 a b) H locs ls (by omega) (by rw [← hq3, lkI, if_pos (by simp [lkB, h6, h7, h8, h9])]) hw hS (lv_sub hl [0, 1, 2] rfl)
          exact LOOP3 (511 - a) (a + 1) S3 _ _ ls (by omega) rfl hw hS (lv_sub hl [0, 1, 2] rfl)
      exact LOOP2 512 0 S2 _ _ ls (by omega) rfl hw hS (lv_sub hl [0, 1] rfl)
    | succ n ih =>
      intro i S2 H locs ls hn hq hw hS hl
      have hi : i < 8192 := by omega
      refine lv_iload_n hx hb dX4_look_2 rfl (lv_at hl 0 rfl) ?_
      refine lv_sipush (v := nI 8192) hx hb dX4_look_3 (by decide) ?_
      refine lv_icmp_ge (tgt := 22) hx hb dX4_look_6 (by decide) (fun q => absurd q (nI_ge hi (by decide))) (fun _ => ?_)
      refine lv_aload_n hx hb dX4_look_9 rfl (lv_at hl 1 rfl) ?_
      refine gf hx hb hown hts hw hT 9 0 (by decide) (ci := 4) rfl rfl (fun _ h => List.mem_cons_of_mem _ (List.mem_append_right _ h)) 9 (by decide) (List.mem_of_getElem? (i := 1) rfl) (v := .ref (g_ad G 11 3)) rfl dX4_look_10 ?_
      refine lv_iload_n hx hb dX4_look_13 rfl (lv_at hl 0 rfl) ?_
      refine lv_iconst (v := nI 0) hx hb dX4_look_14 (by decide) ?_
      refine ais (S' := (mIU S2 (va_up (mIS S2) 3 (va_up (mIS S2 3) i (nI 0))))) hx hb hw hT hS 11 3 (by decide) (f := mIS S2 3) rfl i (show i < 8192 by omega) (by decide) (mup_mI G S2 3 (va_up (mIS S2 3) i (nI 0))) dX4_look_15 (fun H locs hw hS => ?_)
      refine lv_iinc (v := nI (i + 1)) (lv' := [(1, .int (nI (i + 1))), (0, .ref (g_ad G 9 0))]) hx hb dX4_look_16 hl (k := 0) rfl (nI_add i 1) (by decide) rfl (fun ls hl => ?_)
      refine lv_goto (tgt := 2) hx hb dX4_look_19 (by decide) ?_
      have hw : wdM G (zrS S2 i) H s := hw
      exact ih (i + 1) (zrS S2 i) H locs ls (by omega) hq hw hS (lv_sub hl [0, 1] rfl)
  exact LOOP 8192 0 S _ _ ls (by omega) rfl hw hS (lv_sub hl [0, 1] rfl)
set_option maxRecDepth 100000 in
set_option maxHeartbeats 1000000 in
theorem m_update (l : Launch) (G : Gm) (S : St)  : Pi l yX4_update wsX4_update ({ frames := 2, cells := 0, slots := 0, locals := 46 } : Room) [.ref (g_ad G 9 0)] G S (udMI S) (udMS S) := by
  refine ent (cc := cX4_update) (maxL := 3) (ret := (some .int)) (by decide) rfl (Nat.le_of_ble_eq_true rfl) ?_
  intro p e s m below meth c ls C hw hT hS hl
  obtain ⟨hx, hb, hr, hml, hown, hts, hlk⟩ := C
  have hl : lv_has ls 3 [(0, .ref (g_ad G 9 0))] := hl
  refine lv_aload_n hx hb dX4_update_0 rfl (lv_at hl 0 rfl) ?_
  refine cVv ⟨hx, hb, hml, hown, hts⟩ (m_look l G S) (cwV 0 hts gX4_update_X4_look rfl rfl rfl (by decide +kernel) ⟨(Nat.le_of_ble_eq_true rfl), (Nat.le_of_ble_eq_true rfl)⟩) hw hT hS (rcv hw hT 9 0 (by decide) rfl rfl) (As := []) (rest := []) rfl hl.1 rfl (Nat.le_of_ble_eq_true rfl) dX4_update_1 ⟨(Nat.le_of_ble_eq_true rfl), (Nat.le_of_ble_eq_true rfl)⟩ (fun H locs hw hS => ?_)
  obtain ⟨X8, hX8⟩ : ∃ z, z = lkS S := ⟨_, rfl⟩
  rw [← hX8] at hw
  refine lv_aload_n hx hb dX4_update_4 rfl (lv_at hl 0 rfl) ?_
  refine gf hx hb hown hts hw hT 9 0 (by decide) (ci := 4) rfl rfl (fun _ h => List.mem_cons_of_mem _ (List.mem_append_right _ h)) 9 (by decide) (List.mem_of_getElem? (i := 1) rfl) (v := .ref (g_ad G 11 3)) rfl dX4_update_5 ?_
  refine cSi ⟨hx, hb, hml, hown, hts⟩ (m_bits3 l G X8) (va_cwS 1 hts gX4_update_X4_bits rfl rfl rfl (by decide +kernel) ⟨(Nat.le_of_ble_eq_true rfl), (Nat.le_of_ble_eq_true rfl)⟩) hw hT hS (As := [.ref (g_ad G 11 3)]) (rest := []) rfl hl.1 rfl (Nat.le_of_ble_eq_true rfl) dX4_update_8 ⟨(Nat.le_of_ble_eq_true rfl), (Nat.le_of_ble_eq_true rfl)⟩ (fun H locs hw hS => ?_)
  obtain ⟨r9, hr9⟩ : ∃ z, z = biF (mIS X8 3) 8192 := ⟨_, rfl⟩
  refine top_i (y := r9) hr9.symm ?_
  have hu9 : uoB S = !(decide (nI 16384 < r9)) := by unfold uoB; rw [hr9, hX8]
  refine lv_istore_n (lv' := [(1, .int r9), (0, .ref (g_ad G 9 0))]) hx hb dX4_update_11 rfl hl (by decide) rfl (fun ls hl => ?_)
  refine lv_aload_n hx hb dX4_update_12 rfl (lv_at hl 1 rfl) ?_
  have K1 : ∀ (b9 : Bool) (H : Heap) (locs : List Loc), b9 = (!(decide (nI 16384 < r9))) → wdM G X8 H s → va_S (g_A G) s.heap H locs → W p l e ({ frames := 2, cells := 0, slots := 0, locals := 46 } : Room) s m ([.ref (g_ad G 9 0)] : List Value).toArray below meth c H locs 0 0 (MQ below (Qi G (udMI S) (udMS S)) ([.ref (g_ad G 9 0)] : List Value).toArray s ({ frames := 2, cells := 0, slots := 0, locals := 46 } : Room).cells ({ frames := 2, cells := 0, slots := 0, locals := 46 } : Room).slots (g_A G)) (F0 m 25 ls [.int (bI b9), .ref (g_ad G 9 0)]) := by
    intro b9 H locs hb9 hw hS
    subst hb9
    refine lv_iconst (v := nI 1) hx hb dX4_update_25 (by decide) ?_
    refine top_i (y := bI true) (by decide) ?_
    refine cVi ⟨hx, hb, hml, hown, hts⟩ (m_goes l G X8 (!(decide (nI 16384 < r9))) true) (cwV 2 hts gX4_update_X4_goes rfl rfl rfl (by decide +kernel) ⟨(Nat.le_of_ble_eq_true rfl), (Nat.le_of_ble_eq_true rfl)⟩) hw hT hS (rcv hw hT 9 0 (by decide) rfl rfl) (As := [.int (bI (!(decide (nI 16384 < r9)))), .int (bI true)]) (rest := []) rfl hl.1 rfl (Nat.le_of_ble_eq_true rfl) dX4_update_26 ⟨(Nat.le_of_ble_eq_true rfl), (Nat.le_of_ble_eq_true rfl)⟩ (fun H locs hw hS => ?_)
    refine lv_if_ne (tgt := 34) hx hb dX4_update_29 (by decide) (fun h2 => ?_) (fun h2 => ?_)
    · skip
      have h2 := bI_n0.mp h2
      replace hw : wdM G (okS X8) H s := by rw [gs_ok h2] at hw; exact hw
      refine lv_iconst (v := nI 0) hx hb dX4_update_34 (by decide) ?_
      refine lv_istore_n (lv' := [(2, .int (nI 0)), (1, .int r9), (0, .ref (g_ad G 9 0))]) hx hb dX4_update_35 rfl hl (by decide) rfl (fun ls hl => ?_)
      have LOOP : ∀ (n i : Nat) (S2 : St) (H : Heap) (locs : List Loc) (ls : Array Slot), i + n = 8192 → (udR n i S2 = udR 8192 0 (okS X8)) → wdM G S2 H s → va_S (g_A G) s.heap H locs → lv_has ls 3 [(2, .int (nI i)), (1, .int r9), (0, .ref (g_ad G 9 0))] → W p l e ({ frames := 2, cells := 0, slots := 0, locals := 46 } : Room) s m ([.ref (g_ad G 9 0)] : List Value).toArray below meth c H locs 0 0 (MQ below (Qi G (udMI S) (udMS S)) ([.ref (g_ad G 9 0)] : List Value).toArray s ({ frames := 2, cells := 0, slots := 0, locals := 46 } : Room).cells ({ frames := 2, cells := 0, slots := 0, locals := 46 } : Room).slots (g_A G)) (F0 m 36 ls []) := by
        intro n
        induction n with
        | zero =>
          intro i S2 H locs ls hn hq hw hS hl
          obtain rfl : 8192 = i := by omega
          refine lv_iload_n hx hb dX4_update_36 rfl (lv_at hl 0 rfl) ?_
          refine lv_sipush (v := nI 8192) hx hb dX4_update_37 (by decide) ?_
          refine lv_icmp_ge (tgt := 103) hx hb dX4_update_40 (by decide) (fun _ => ?_) (fun q => absurd (by decide) q)
          have hq0 : S2 = udR 8192 0 (okS X8) := hq
          refine lv_iconst (v := nI 0) hx hb dX4_update_103 (by decide) ?_
          refine lv_istore_n (lv' := [(2, .int (nI 0)), (1, .int r9), (0, .ref (g_ad G 9 0))]) hx hb dX4_update_104 rfl hl (by decide) rfl (fun ls hl => ?_)
          have LOOP2 : ∀ (n2 i : Nat) (S3 : St) (H : Heap) (locs : List Loc) (ls : Array Slot), i + n2 = 512 → (utR n2 i S3 = utR 512 0 S2) → wdM G S3 H s → va_S (g_A G) s.heap H locs → lv_has ls 3 [(2, .int (nI i)), (1, .int r9), (0, .ref (g_ad G 9 0))] → W p l e ({ frames := 2, cells := 0, slots := 0, locals := 46 } : Room) s m ([.ref (g_ad G 9 0)] : List Value).toArray below meth c H locs 0 0 (MQ below (Qi G (udMI S) (udMS S)) ([.ref (g_ad G 9 0)] : List Value).toArray s ({ frames := 2, cells := 0, slots := 0, locals := 46 } : Room).cells ({ frames := 2, cells := 0, slots := 0, locals := 46 } : Room).slots (g_A G)) (F0 m 105 ls []) := by
            intro n2
            induction n2 with
            | zero =>
              intro i S3 H locs ls hn2 hq2 hw hS hl
              obtain rfl : 512 = i := by omega
              refine lv_iload_n hx hb dX4_update_105 rfl (lv_at hl 0 rfl) ?_
              refine lv_sipush (v := nI 512) hx hb dX4_update_106 (by decide) ?_
              refine lv_icmp_ge (tgt := 125) hx hb dX4_update_109 (by decide) (fun _ => ?_) (fun q => absurd (by decide) q)
              refine lv_aload_n hx hb dX4_update_125 rfl (lv_at hl 2 rfl) ?_
              refine lv_dup hx hb dX4_update_126 rfl ?_
              refine gf hx hb hown hts hw hT 9 0 (by decide) (ci := 4) rfl rfl (fun _ h => List.mem_cons_of_mem _ (List.mem_append_right _ h)) 12 (by decide) (List.mem_of_getElem? (i := 6) rfl) (v := .int (mnS S3 1)) rfl dX4_update_127 ?_
              refine lv_iconst (v := nI 1) hx hb dX4_update_130 (by decide) ?_
              refine lv_iadd hx hb dX4_update_131 ?_
              refine pf (S' := (mnU S3 (va_up (mnS S3) 1 ((mnS S3 1) + (nI 1))))) hx hb hown hts hw hT hS 9 0 (by decide) (ci := 4) rfl rfl (fun _ h => List.mem_cons_of_mem _ (List.mem_append_right _ h)) tyX4 tyX4_ok nmX4 12 (by decide) (List.mem_of_getElem? (i := 6) rfl) rfl (ty := .int) (by decide +kernel) (vp_nar_int _) rfl (Nat.le_of_ble_eq_true rfl) (mup_mn1 G S3 ((mnS S3 1) + (nI 1))) dX4_update_132 (fun H locs hw hS => ?_)
              refine lv_iload_n hx hb dX4_update_135 rfl (lv_at hl 1 rfl) ?_
              exact ri hx hb hlk hr (by unfold udMS; rw [hu9, if_pos h2, ← hX8, ← hq0, ← hq2]; exact hw) hS (by unfold udMI; rw [hu9, if_pos h2, ← hX8]; exact hr9) (vp_nar_int _) (Nat.le_of_ble_eq_true rfl) (Nat.le_of_ble_eq_true rfl) dX4_update_136
            | succ n2 ih =>
              intro i S3 H locs ls hn2 hq2 hw hS hl
              have hi : i < 512 := by omega
              refine lv_iload_n hx hb dX4_update_105 rfl (lv_at hl 0 rfl) ?_
              refine lv_sipush (v := nI 512) hx hb dX4_update_106 (by decide) ?_
              refine lv_icmp_ge (tgt := 125) hx hb dX4_update_109 (by decide) (fun q => absurd q (nI_ge hi (by decide))) (fun _ => ?_)
              refine lv_aload_n hx hb dX4_update_112 rfl (lv_at hl 2 rfl) ?_
              refine gf hx hb hown hts hw hT 9 0 (by decide) (ci := 4) rfl rfl (fun _ h => List.mem_cons_of_mem _ (List.mem_append_right _ h)) 3 (by decide) (List.mem_of_getElem? (i := 5) rfl) (v := .ref (g_ad G 12 1)) rfl dX4_update_113 ?_
              refine lv_iload_n hx hb dX4_update_116 rfl (lv_at hl 0 rfl) ?_
              refine lv_iconst (v := nI 0) hx hb dX4_update_117 (by decide) ?_
              refine top_i (y := bI false) (by decide) ?_
              refine azs (S' := (mZU S3 (va_up (mZS S3) 1 (va_up (mZS S3 1) i false)))) hx hb hw hT hS 12 1 (by decide) (f := (fun q => bI (mZS S3 1 q))) rfl i (show i < 512 by omega) (by decide) (mup_mZ G S3 1 i false) dX4_update_118 (fun H locs hw hS => ?_)
              refine lv_iinc (v := nI (i + 1)) (lv' := [(2, .int (nI (i + 1))), (1, .int r9), (0, .ref (g_ad G 9 0))]) hx hb dX4_update_119 hl (k := 0) rfl (nI_add i 1) (by decide) rfl (fun ls hl => ?_)
              refine lv_goto (tgt := 105) hx hb dX4_update_122 (by decide) ?_
              have hw : wdM G (utS S3 i) H s := hw
              exact ih (i + 1) (utS S3 i) H locs ls (by omega) hq2 hw hS (lv_sub hl [0, 1, 2] rfl)
          exact LOOP2 512 0 S2 _ _ ls (by omega) rfl hw hS (lv_sub hl [0, 1, 2] rfl)
        | succ n ih =>
          intro i S2 H locs ls hn hq hw hS hl
          have hi : i < 8192 := by omega
          refine lv_iload_n hx hb dX4_update_36 rfl (lv_at hl 0 rfl) ?_
          refine lv_sipush (v := nI 8192) hx hb dX4_update_37 (by decide) ?_
          refine lv_icmp_ge (tgt := 103) hx hb dX4_update_40 (by decide) (fun q => absurd q (nI_ge hi (by decide))) (fun _ => ?_)
          refine lv_aload_n hx hb dX4_update_43 rfl (lv_at hl 2 rfl) ?_
          refine gf hx hb hown hts hw hT 9 0 (by decide) (ci := 4) rfl rfl (fun _ h => List.mem_cons_of_mem _ (List.mem_append_right _ h)) 10 (by decide) (List.mem_of_getElem? (i := 2) rfl) (v := .ref (g_ad G 11 4)) rfl dX4_update_44 ?_
          refine lv_iload_n hx hb dX4_update_47 rfl (lv_at hl 0 rfl) ?_
          refine lv_aload_n hx hb dX4_update_48 rfl (lv_at hl 2 rfl) ?_
          refine gf hx hb hown hts hw hT 9 0 (by decide) (ci := 4) rfl rfl (fun _ h => List.mem_cons_of_mem _ (List.mem_append_right _ h)) 9 (by decide) (List.mem_of_getElem? (i := 1) rfl) (v := .ref (g_ad G 11 3)) rfl dX4_update_49 ?_
          refine lv_iload_n hx hb dX4_update_52 rfl (lv_at hl 0 rfl) ?_
          refine ail hx hb hw hT 11 3 (by decide) (f := mIS S2 3) rfl i (show i < 8192 by omega) (by decide) dX4_update_53 ?_
          refine lv_aload_n hx hb dX4_update_54 rfl (lv_at hl 2 rfl) ?_
          refine gf hx hb hown hts hw hT 9 0 (by decide) (ci := 4) rfl rfl (fun _ h => List.mem_cons_of_mem _ (List.mem_append_right _ h)) 8 (by decide) (List.mem_of_getElem? (i := 3) rfl) (v := .ref (g_ad G 11 2)) rfl dX4_update_55 ?_
          refine lv_iload_n hx hb dX4_update_58 rfl (lv_at hl 0 rfl) ?_
          refine ail hx hb hw hT 11 2 (by decide) (f := mIS S2 2) rfl i (show i < 8192 by omega) (by decide) dX4_update_59 ?_
          refine lv_iconst (v := (-1)) hx hb dX4_update_60 (by decide) ?_
          refine lv_ixor hx hb dX4_update_61 ?_
          refine lv_iand hx hb dX4_update_62 ?_
          refine ais (S' := (mIU S2 (va_up (mIS S2) 4 (va_up (mIS S2 4) i ((mIS S2 3 i) &&& ((mIS S2 2 i) ^^^ ((-1)))))))) hx hb hw hT hS 11 4 (by decide) (f := mIS S2 4) rfl i (show i < 8192 by omega) (by decide) (mup_mI G S2 4 (va_up (mIS S2 4) i ((mIS S2 3 i) &&& ((mIS S2 2 i) ^^^ ((-1)))))) dX4_update_63 (fun H locs hw hS => ?_)
          refine lv_aload_n hx hb dX4_update_64 rfl (lv_at hl 2 rfl) ?_
          refine gf hx hb hown hts hw hT 9 0 (by decide) (ci := 4) rfl rfl (fun _ h => List.mem_cons_of_mem _ (List.mem_append_right _ h)) 11 (by decide) (List.mem_of_getElem? (i := 4) rfl) (v := .ref (g_ad G 11 5)) rfl dX4_update_65 ?_
          refine lv_iload_n hx hb dX4_update_68 rfl (lv_at hl 0 rfl) ?_
          refine lv_aload_n hx hb dX4_update_69 rfl (lv_at hl 2 rfl) ?_
          refine gf hx hb hown hts hw hT 9 0 (by decide) (ci := 4) rfl rfl (fun _ h => List.mem_cons_of_mem _ (List.mem_append_right _ h)) 8 (by decide) (List.mem_of_getElem? (i := 3) rfl) (v := .ref (g_ad G 11 2)) rfl dX4_update_70 ?_
          refine lv_iload_n hx hb dX4_update_73 rfl (lv_at hl 0 rfl) ?_
          refine ail hx hb hw hT 11 2 (by decide) (f := mIS S2 2) rfl i (show i < 8192 by omega) (by decide) dX4_update_74 ?_
          refine lv_aload_n hx hb dX4_update_75 rfl (lv_at hl 2 rfl) ?_
          refine gf hx hb hown hts hw hT 9 0 (by decide) (ci := 4) rfl rfl (fun _ h => List.mem_cons_of_mem _ (List.mem_append_right _ h)) 9 (by decide) (List.mem_of_getElem? (i := 1) rfl) (v := .ref (g_ad G 11 3)) rfl dX4_update_76 ?_
          refine lv_iload_n hx hb dX4_update_79 rfl (lv_at hl 0 rfl) ?_
          refine ail hx hb hw hT 11 3 (by decide) (f := mIS S2 3) rfl i (show i < 8192 by omega) (by decide) dX4_update_80 ?_
          refine lv_iconst (v := (-1)) hx hb dX4_update_81 (by decide) ?_
          refine lv_ixor hx hb dX4_update_82 ?_
          refine lv_iand hx hb dX4_update_83 ?_
          refine ais (S' := (mIU (mIU S2 (va_up (mIS S2) 4 (va_up (mIS S2 4) i ((mIS S2 3 i) &&& ((mIS S2 2 i) ^^^ ((-1))))))) (va_up (mIS (mIU S2 (va_up (mIS S2) 4 (va_up (mIS S2 4) i ((mIS S2 3 i) &&& ((mIS S2 2 i) ^^^ ((-1)))))))) 5 (va_up (mIS S2 5) i ((mIS S2 2 i) &&& ((mIS S2 3 i) ^^^ ((-1)))))))) hx hb hw hT hS 11 5 (by decide) (f := mIS S2 5) rfl i (show i < 8192 by omega) (by decide) (mup_mI G (mIU S2 (va_up (mIS S2) 4 (va_up (mIS S2 4) i ((mIS S2 3 i) &&& ((mIS S2 2 i) ^^^ ((-1))))))) 5 (va_up (mIS S2 5) i ((mIS S2 2 i) &&& ((mIS S2 3 i) ^^^ ((-1)))))) dX4_update_84 (fun H locs hw hS => ?_)
          refine lv_aload_n hx hb dX4_update_85 rfl (lv_at hl 2 rfl) ?_
          refine gf hx hb hown hts hw hT 9 0 (by decide) (ci := 4) rfl rfl (fun _ h => List.mem_cons_of_mem _ (List.mem_append_right _ h)) 8 (by decide) (List.mem_of_getElem? (i := 3) rfl) (v := .ref (g_ad G 11 2)) rfl dX4_update_86 ?_
          refine lv_iload_n hx hb dX4_update_89 rfl (lv_at hl 0 rfl) ?_
          refine lv_aload_n hx hb dX4_update_90 rfl (lv_at hl 2 rfl) ?_
          refine gf hx hb hown hts hw hT 9 0 (by decide) (ci := 4) rfl rfl (fun _ h => List.mem_cons_of_mem _ (List.mem_append_right _ h)) 9 (by decide) (List.mem_of_getElem? (i := 1) rfl) (v := .ref (g_ad G 11 3)) rfl dX4_update_91 ?_
          refine lv_iload_n hx hb dX4_update_94 rfl (lv_at hl 0 rfl) ?_
          refine ail hx hb hw hT 11 3 (by decide) (f := mIS S2 3) rfl i (show i < 8192 by omega) (by decide) dX4_update_95 ?_
          refine ais (S' := (mIU (mIU (mIU S2 (va_up (mIS S2) 4 (va_up (mIS S2 4) i ((mIS S2 3 i) &&& ((mIS S2 2 i) ^^^ ((-1))))))) (va_up (mIS (mIU S2 (va_up (mIS S2) 4 (va_up (mIS S2 4) i ((mIS S2 3 i) &&& ((mIS S2 2 i) ^^^ ((-1)))))))) 5 (va_up (mIS S2 5) i ((mIS S2 2 i) &&& ((mIS S2 3 i) ^^^ ((-1))))))) (va_up (mIS (mIU (mIU S2 (va_up (mIS S2) 4 (va_up (mIS S2 4) i ((mIS S2 3 i) &&& ((mIS S2 2 i) ^^^ ((-1))))))) (va_up (mIS (mIU S2 (va_up (mIS S2) 4 (va_up (mIS S2 4) i ((mIS S2 3 i) &&& ((mIS S2 2 i) ^^^ ((-1)))))))) 5 (va_up (mIS S2 5) i ((mIS S2 2 i) &&& ((mIS S2 3 i) ^^^ ((-1)))))))) 2 (va_up (mIS S2 2) i (mIS S2 3 i))))) hx hb hw hT hS 11 2 (by decide) (f := mIS S2 2) rfl i (show i < 8192 by omega) (by decide) (mup_mI G (mIU (mIU S2 (va_up (mIS S2) 4 (va_up (mIS S2 4) i ((mIS S2 3 i) &&& ((mIS S2 2 i) ^^^ ((-1))))))) (va_up (mIS (mIU S2 (va_up (mIS S2) 4 (va_up (mIS S2 4) i ((mIS S2 3 i) &&& ((mIS S2 2 i) ^^^ ((-1)))))))) 5 (va_up (mIS S2 5) i ((mIS S2 2 i) &&& ((mIS S2 3 i) ^^^ ((-1))))))) 2 (va_up (mIS S2 2) i (mIS S2 3 i))) dX4_update_96 (fun H locs hw hS => ?_)
          refine lv_iinc (v := nI (i + 1)) (lv' := [(2, .int (nI (i + 1))), (1, .int r9), (0, .ref (g_ad G 9 0))]) hx hb dX4_update_97 hl (k := 0) rfl (nI_add i 1) (by decide) rfl (fun ls hl => ?_)
          refine lv_goto (tgt := 36) hx hb dX4_update_100 (by decide) ?_
          have hw : wdM G (udS S2 i) H s := hw
          exact ih (i + 1) (udS S2 i) H locs ls (by omega) hq hw hS (lv_sub hl [0, 1, 2] rfl)
      exact LOOP 8192 0 ((okS X8)) _ _ ls (by omega) rfl hw hS (lv_sub hl [0, 1, 2] rfl)
    · skip
      have h2 := bI_0.mp h2
      refine lv_iconst (v := nI 0) hx hb dX4_update_32 (by decide) ?_
      exact ri hx hb hlk hr (by unfold udMS; rw [hu9, if_neg (by rw [h2]; decide), ← hX8]; exact hw) hS (by unfold udMI; rw [hu9, if_neg (by rw [h2]; decide)]) (vp_nar_int _) (Nat.le_of_ble_eq_true rfl) (Nat.le_of_ble_eq_true rfl) dX4_update_33
  refine lv_iload_n hx hb dX4_update_13 rfl (lv_at hl 0 rfl) ?_
  refine lv_sipush (v := nI 16384) hx hb dX4_update_14 (by decide) ?_
  refine lv_icmp_gt (tgt := 24) hx hb dX4_update_17 (by decide) (fun h7 => ?_) (fun h7 => ?_)
  · skip
    refine lv_iconst (v := nI 0) hx hb dX4_update_24 (by decide) ?_
    refine top_i (y := bI false) (by decide) ?_
    exact K1 false _ _ (by first | (simp only [h7, Bool.true_and, Bool.false_and, Bool.and_true, Bool.and_false]; done) | simp [h7]) hw hS
  · skip
    refine lv_iconst (v := nI 1) hx hb dX4_update_20 (by decide) ?_
    refine lv_goto (tgt := 25) hx hb dX4_update_21 (by decide) ?_
    refine top_i (y := bI true) (by decide) ?_
    exact K1 true _ _ (by first | (simp only [h7, Bool.true_and, Bool.false_and, Bool.and_true, Bool.and_false]; done) | simp [h7]) hw hS
