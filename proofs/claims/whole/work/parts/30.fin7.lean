/-! update -/
set_option maxRecDepth 100000 in
set_option maxHeartbeats 1000000 in
theorem c_update (l : Launch) (G : Gm) (S : St) (hl0 : l.stackTraces = false) (hi1 : (ipS S).1 < 2) (hi2 : (ipS S).2 < 2) (hin : (ipS S).1 ≠ (ipS S).2) : Ti l yX3_update wsX3_update ({ frames := 6, cells := 1, slots := 6, locals := 82 } : Room) [.ref (g_ad G 0 0)] G S (upX S) (upS S 512) (psS (upF S) (ipS S).2) (upF S) := by
  refine entX (cc := cX3_update) (maxL := 3) (ret := (some .int)) (by decide) rfl (Nat.le_of_ble_eq_true rfl) ?_
  intro p e s m below meth c ls C hw hT hS hte hl
  obtain ⟨hx, hb, hr, hml, hown, hts, hlk⟩ := C
  have hz1 := hw.2.2.2.2.1
  have hz2 := hw.2.2.2.2.2
  have hl : lv_has ls 3 [(0, .ref (g_ad G 0 0))] := hl
  refine lv_aload_n hx hb dX3_update_0 rfl (lv_at hl 0 rfl) ?_
  refine gf hx hb hown hts hw hT 0 0 (by decide) (ci := 3) rfl rfl (fun _ h => List.mem_cons_of_mem _ (List.mem_append_left _ (List.mem_append_left _ (List.mem_append_left _ (List.mem_append_left _ (List.mem_append_right _ h)))))) 4 (by decide) (List.mem_of_getElem? (i := 3) rfl) (v := .ref (g_ad G 5 ((ipS S).2))) rfl dX3_update_1 ?_
  refine lv_aload_n hx hb dX3_update_4 rfl (lv_at hl 0 rfl) ?_
  refine gf hx hb hown hts hw hT 0 0 (by decide) (ci := 3) rfl rfl (fun _ h => List.mem_cons_of_mem _ (List.mem_append_left _ (List.mem_append_left _ (List.mem_append_left _ (List.mem_append_left _ (List.mem_append_right _ h)))))) 3 (by decide) (List.mem_of_getElem? (i := 4) rfl) (v := .ref (g_ad G 5 ((ipS S).1))) rfl dX3_update_5 ?_
  refine cVv ⟨hx, hb, hml, hown, hts⟩ (c_copySet l G S ((ipS S).2) (show (ipS S).2 < 4 by omega) ((ipS S).1) (show (ipS S).1 < 4 by omega) (by omega)) (cwV 1 hts gX3_update_X2_copyFrom rfl rfl rfl (by decide +kernel) ⟨(Nat.le_of_ble_eq_true rfl), (Nat.le_of_ble_eq_true rfl)⟩) hw hT hS (rcv hw hT 5 ((ipS S).2) (show (ipS S).2 < 4 by omega) rfl rfl) (As := [.ref (g_ad G 5 ((ipS S).1))]) (rest := []) rfl hl.1 rfl (Nat.le_of_ble_eq_true rfl) dX3_update_8 ⟨(Nat.le_of_ble_eq_true rfl), (Nat.le_of_ble_eq_true rfl)⟩ (fun H locs hw hS => ?_)
  refine lv_iconst (v := nI 0) hx hb dX3_update_11 (by decide) ?_
  refine lv_istore_n (lv' := [(1, .int (nI 0)), (0, .ref (g_ad G 0 0))]) hx hb dX3_update_12 rfl hl (by decide) rfl (fun ls hl => ?_)
  have LOOP : ∀ (n b : Nat)  (H : Heap) (locs : List Loc) (ls : Array Slot), b + n = 512 → wdM G (upS S b) H s → va_S (g_A G) s.heap H locs → lv_has ls 3 [(1, .int (nI b)), (0, .ref (g_ad G 0 0))] → W p l e ({ frames := 6, cells := 1, slots := 6, locals := 82 } : Room) s m ([.ref (g_ad G 0 0)] : List Value).toArray below meth c H locs 0 0 (vx_MQ below (Ki G (upX S) (psS (upF S) (ipS S).2) (upF S)) (Kx G (upX S) (upS S 512)) ([.ref (g_ad G 0 0)] : List Value).toArray s ({ frames := 6, cells := 1, slots := 6, locals := 82 } : Room).cells ({ frames := 6, cells := 1, slots := 6, locals := 82 } : Room).slots (g_A G)) (F0 m 13 ls []) := by
    intro n
    induction n with
    | zero =>
      intro b  H locs ls hn  hw hS hl
      obtain rfl : 512 = b := by omega
      refine lv_iload_n hx hb dX3_update_13 rfl (lv_at hl 0 rfl) ?_
      refine lv_sipush (v := nI 512) hx hb dX3_update_14 (by decide) ?_
      refine lv_icmp_ge (tgt := 43) hx hb dX3_update_17 (by decide) (fun _ => ?_) (fun q => absurd (by decide) q)
      have hip1 : (ipS (upS S 512)).1 < 4 := by rw [up_ip]; omega
      have hip2 : (ipS (upS S 512)).2 < 4 := by rw [up_ip]; omega
      have e0 := up_ip S 512
      refine lv_aload_n hx hb dX3_update_43 rfl (lv_at hl 1 rfl) ?_
      refine gf hx hb hown hts hw hT 0 0 (by decide) (ci := 3) rfl rfl (fun _ h => List.mem_cons_of_mem _ (List.mem_append_left _ (List.mem_append_left _ (List.mem_append_left _ (List.mem_append_left _ (List.mem_append_right _ h)))))) 4 (by decide) (List.mem_of_getElem? (i := 3) rfl) (v := .ref (g_ad G 5 ((ipS (upS S 512)).2))) rfl dX3_update_44 ?_
      refine gf hx hb hown hts hw hT 5 ((ipS (upS S 512)).2) (show (ipS (upS S 512)).2 < 4 by omega) (ci := 2) rfl rfl (fun _ h => List.mem_cons_of_mem _ (List.mem_append_left _ (List.mem_append_left _ (List.mem_append_right _ h)))) 1 (by decide) (List.mem_of_getElem? (i := 7) rfl) (v := .int (psS (upS S 512) ((ipS (upS S 512)).2))) rfl dX3_update_47 ?_
      refine lv_sipush (v := nI 16384) hx hb dX3_update_50 (by decide) ?_
      refine lv_icmp_le (tgt := 66) hx hb dX3_update_53 (by decide) (fun h2 => ?_) (fun h2 => ?_)
      · skip
        have h2 : ¬ (nI 16384) < (psS (upS S 512) ((ipS (upS S 512)).2)) := Int32.not_lt.mpr h2
        have hip3 : (ipS (upS S 512)).1 = (ipS S).1 := by rw [up_ip]
        have hip4 : (ipS (upS S 512)).2 = (ipS S).2 := by rw [up_ip]
        refine lv_aload_n hx hb dX3_update_66 rfl (lv_at hl 1 rfl) ?_
        refine gf hx hb hown hts hw hT 0 0 (by decide) (ci := 3) rfl rfl (fun _ h => List.mem_cons_of_mem _ (List.mem_append_left _ (List.mem_append_left _ (List.mem_append_left _ (List.mem_append_left _ (List.mem_append_right _ h)))))) 5 (by decide) (List.mem_of_getElem? (i := 8) rfl) (v := .ref (g_ad G 5 2)) rfl dX3_update_67 ?_
        refine lv_aload_n hx hb dX3_update_70 rfl (lv_at hl 1 rfl) ?_
        refine gf hx hb hown hts hw hT 0 0 (by decide) (ci := 3) rfl rfl (fun _ h => List.mem_cons_of_mem _ (List.mem_append_left _ (List.mem_append_left _ (List.mem_append_left _ (List.mem_append_left _ (List.mem_append_right _ h)))))) 4 (by decide) (List.mem_of_getElem? (i := 3) rfl) (v := .ref (g_ad G 5 ((ipS (upS S 512)).2))) rfl dX3_update_71 ?_
        refine lv_aload_n hx hb dX3_update_74 rfl (lv_at hl 1 rfl) ?_
        refine gf hx hb hown hts hw hT 0 0 (by decide) (ci := 3) rfl rfl (fun _ h => List.mem_cons_of_mem _ (List.mem_append_left _ (List.mem_append_left _ (List.mem_append_left _ (List.mem_append_left _ (List.mem_append_right _ h)))))) 3 (by decide) (List.mem_of_getElem? (i := 4) rfl) (v := .ref (g_ad G 5 ((ipS (upS S 512)).1))) rfl dX3_update_75 ?_
        refine cVv ⟨hx, hb, hml, hown, hts⟩ (c_diff l G (upS S 512) 2 (by decide) ((ipS (upS S 512)).2) (show (ipS (upS S 512)).2 < 4 by omega) ((ipS (upS S 512)).1) (show (ipS (upS S 512)).1 < 4 by omega) (by omega) (by omega)) (cwV 2 hts gX3_update_X2_setToDifference rfl rfl rfl (by decide +kernel) ⟨(Nat.le_of_ble_eq_true rfl), (Nat.le_of_ble_eq_true rfl)⟩) hw hT hS (rcv hw hT 5 2 (by decide) rfl rfl) (As := [.ref (g_ad G 5 ((ipS (upS S 512)).2)), .ref (g_ad G 5 ((ipS (upS S 512)).1))]) (rest := []) rfl hl.1 rfl (Nat.le_of_ble_eq_true rfl) dX3_update_78 ⟨(Nat.le_of_ble_eq_true rfl), (Nat.le_of_ble_eq_true rfl)⟩ (fun H locs hw hS => ?_)
        have hw : wdM G (upB S) H s := by unfold upB; rw [up_ip] at hw; exact hw
        have ei : ipS (upB S) = ipS S := by unfold upB; rw [df_ip, up_ip]
        have hip5 : (ipS (upB S)).1 < 2 := by rw [ei]; omega
        have hip6 : (ipS (upB S)).2 < 2 := by rw [ei]; omega
        refine lv_aload_n hx hb dX3_update_81 rfl (lv_at hl 1 rfl) ?_
        refine gf hx hb hown hts hw hT 0 0 (by decide) (ci := 3) rfl rfl (fun _ h => List.mem_cons_of_mem _ (List.mem_append_left _ (List.mem_append_left _ (List.mem_append_left _ (List.mem_append_left _ (List.mem_append_right _ h)))))) 6 (by decide) (List.mem_of_getElem? (i := 9) rfl) (v := .ref (g_ad G 5 3)) rfl dX3_update_82 ?_
        refine lv_aload_n hx hb dX3_update_85 rfl (lv_at hl 1 rfl) ?_
        refine gf hx hb hown hts hw hT 0 0 (by decide) (ci := 3) rfl rfl (fun _ h => List.mem_cons_of_mem _ (List.mem_append_left _ (List.mem_append_left _ (List.mem_append_left _ (List.mem_append_left _ (List.mem_append_right _ h)))))) 3 (by decide) (List.mem_of_getElem? (i := 4) rfl) (v := .ref (g_ad G 5 ((ipS (upB S)).1))) rfl dX3_update_86 ?_
        refine lv_aload_n hx hb dX3_update_89 rfl (lv_at hl 1 rfl) ?_
        refine gf hx hb hown hts hw hT 0 0 (by decide) (ci := 3) rfl rfl (fun _ h => List.mem_cons_of_mem _ (List.mem_append_left _ (List.mem_append_left _ (List.mem_append_left _ (List.mem_append_left _ (List.mem_append_right _ h)))))) 4 (by decide) (List.mem_of_getElem? (i := 3) rfl) (v := .ref (g_ad G 5 ((ipS (upB S)).2))) rfl dX3_update_90 ?_
        refine cVv ⟨hx, hb, hml, hown, hts⟩ (c_diff l G (upB S) 3 (by decide) ((ipS (upB S)).1) (show (ipS (upB S)).1 < 4 by omega) ((ipS (upB S)).2) (show (ipS (upB S)).2 < 4 by omega) (by omega) (by omega)) (cwV 2 hts gX3_update_X2_setToDifference rfl rfl rfl (by decide +kernel) ⟨(Nat.le_of_ble_eq_true rfl), (Nat.le_of_ble_eq_true rfl)⟩) hw hT hS (rcv hw hT 5 3 (by decide) rfl rfl) (As := [.ref (g_ad G 5 ((ipS (upB S)).1)), .ref (g_ad G 5 ((ipS (upB S)).2))]) (rest := []) rfl hl.1 rfl (Nat.le_of_ble_eq_true rfl) dX3_update_93 ⟨(Nat.le_of_ble_eq_true rfl), (Nat.le_of_ble_eq_true rfl)⟩ (fun H locs hw hS => ?_)
        have hw : wdM G (upE S) H s := by unfold upE; rw [ei] at hw; exact hw
        have ej : ipS (upE S) = ipS S := by unfold upE; rw [df_ip, ei]
        obtain ⟨X8, hX8⟩ : ∃ z, z = upE S := ⟨_, rfl⟩
        rw [← hX8] at hw ej
        have hip7 : (ipS X8).1 < 2 := by rw [ej]; omega
        have hip8 : (ipS X8).2 < 2 := by rw [ej]; omega
        refine lv_aload_n hx hb dX3_update_96 rfl (lv_at hl 1 rfl) ?_
        refine gf hx hb hown hts hw hT 0 0 (by decide) (ci := 3) rfl rfl (fun _ h => List.mem_cons_of_mem _ (List.mem_append_left _ (List.mem_append_left _ (List.mem_append_left _ (List.mem_append_left _ (List.mem_append_right _ h)))))) 3 (by decide) (List.mem_of_getElem? (i := 4) rfl) (v := .ref (g_ad G 5 ((ipS X8).1))) rfl dX3_update_97 ?_
        refine lv_astore_n (lv' := [(1, .ref (g_ad G 5 ((ipS X8).1))), (0, .ref (g_ad G 0 0))]) hx hb dX3_update_100 rfl hl (by decide) rfl (fun ls hl => ?_)
        refine lv_aload_n hx hb dX3_update_101 rfl (lv_at hl 1 rfl) ?_
        refine lv_aload_n hx hb dX3_update_102 rfl (lv_at hl 1 rfl) ?_
        refine gf hx hb hown hts hw hT 0 0 (by decide) (ci := 3) rfl rfl (fun _ h => List.mem_cons_of_mem _ (List.mem_append_left _ (List.mem_append_left _ (List.mem_append_left _ (List.mem_append_left _ (List.mem_append_right _ h)))))) 4 (by decide) (List.mem_of_getElem? (i := 3) rfl) (v := .ref (g_ad G 5 ((ipS X8).2))) rfl dX3_update_103 ?_
        refine pf (S' := (ipU X8 (((ipS X8).2, (ipS X8).2)))) hx hb hown hts hw hT hS 0 0 (by decide) (ci := 3) rfl rfl (fun _ h => List.mem_cons_of_mem _ (List.mem_append_left _ (List.mem_append_left _ (List.mem_append_left _ (List.mem_append_left _ (List.mem_append_right _ h)))))) tyX3 tyX3_ok nmX3 3 (by decide) (List.mem_of_getElem? (i := 4) rfl) rfl (ty := .object "PairFinder$PairSet") (by decide +kernel) rfl rfl (Nat.le_of_ble_eq_true rfl) (mup_ip1 G X8 ((ipS X8).2)) dX3_update_106 (fun H locs hw hS => ?_)
        refine lv_aload_n hx hb dX3_update_109 rfl (lv_at hl 1 rfl) ?_
        refine lv_aload_n hx hb dX3_update_110 rfl (lv_at hl 0 rfl) ?_
        refine pf (S' := (ipU (ipU X8 (((ipS X8).2, (ipS X8).2))) (((ipS X8).2, (ipS X8).1)))) hx hb hown hts hw hT hS 0 0 (by decide) (ci := 3) rfl rfl (fun _ h => List.mem_cons_of_mem _ (List.mem_append_left _ (List.mem_append_left _ (List.mem_append_left _ (List.mem_append_left _ (List.mem_append_right _ h)))))) tyX3 tyX3_ok nmX3 4 (by decide) (List.mem_of_getElem? (i := 3) rfl) rfl (ty := .object "PairFinder$PairSet") (by decide +kernel) rfl rfl (Nat.le_of_ble_eq_true rfl) (mup_ip2 G (ipU X8 (((ipS X8).2, (ipS X8).2))) ((ipS X8).1)) dX3_update_111 (fun H locs hw hS => ?_)
        refine lv_iconst (v := nI 0) hx hb dX3_update_114 (by decide) ?_
        refine lv_istore_n (lv' := [(2, .int (nI 0)), (1, .ref (g_ad G 5 ((ipS X8).1))), (0, .ref (g_ad G 0 0))]) hx hb dX3_update_115 rfl hl (by decide) rfl (fun ls hl => ?_)
        have hw : wdM G (upC S 0) H s := by unfold upC; rw [cl_0, tcip, ← hX8]; rw [ipip, ej] at hw; exact hw
        have LOOP2 : ∀ (n2 q : Nat)  (H : Heap) (locs : List Loc) (ls : Array Slot), q + n2 = 512 → wdM G (upC S q) H s → va_S (g_A G) s.heap H locs → lv_has ls 3 [(2, .int (nI q)), (0, .ref (g_ad G 0 0))] → W p l e ({ frames := 6, cells := 1, slots := 6, locals := 82 } : Room) s m ([.ref (g_ad G 0 0)] : List Value).toArray below meth c H locs 0 0 (vx_MQ below (Ki G (upX S) (psS (upF S) (ipS S).2) (upF S)) (Kx G (upX S) (upS S 512)) ([.ref (g_ad G 0 0)] : List Value).toArray s ({ frames := 6, cells := 1, slots := 6, locals := 82 } : Room).cells ({ frames := 6, cells := 1, slots := 6, locals := 82 } : Room).slots (g_A G)) (F0 m 116 ls []) := by
          intro n2
          induction n2 with
          | zero =>
            intro q  H locs ls hn2  hw hS hl
            obtain rfl : 512 = q := by omega
            obtain ⟨X9, hX9⟩ : ∃ z, z = upC S 512 := ⟨_, rfl⟩
            rw [← hX9] at hw
            have ei9 : ipS X9 = ((ipS S).2, (ipS S).1) := by rw [hX9, up_i]
            have hip9 : (ipS X9).1 < 4 := by rw [ei9]; show (ipS S).2 < 4; omega
            refine lv_iload_n hx hb dX3_update_116 rfl (lv_at hl 0 rfl) ?_
            refine lv_sipush (v := nI 512) hx hb dX3_update_117 (by decide) ?_
            refine lv_icmp_ge (tgt := 139) hx hb dX3_update_120 (by decide) (fun _ => ?_) (fun q => absurd (by decide) q)
            refine lv_aload_n hx hb dX3_update_139 rfl (lv_at hl 1 rfl) ?_
            refine lv_dup hx hb dX3_update_140 rfl ?_
            refine gf hx hb hown hts hw hT 0 0 (by decide) (ci := 3) rfl rfl (fun _ h => List.mem_cons_of_mem _ (List.mem_append_left _ (List.mem_append_left _ (List.mem_append_left _ (List.mem_append_left _ (List.mem_append_right _ h)))))) 7 (by decide) (List.mem_of_getElem? (i := 10) rfl) (v := .int (nfS X9 1)) rfl dX3_update_141 ?_
            refine lv_iconst (v := nI 1) hx hb dX3_update_144 (by decide) ?_
            refine lv_iadd hx hb dX3_update_145 ?_
            refine pf (S' := (nfU X9 (va_up (nfS X9) 1 ((nfS X9 1) + (nI 1))))) hx hb hown hts hw hT hS 0 0 (by decide) (ci := 3) rfl rfl (fun _ h => List.mem_cons_of_mem _ (List.mem_append_left _ (List.mem_append_left _ (List.mem_append_left _ (List.mem_append_left _ (List.mem_append_right _ h)))))) tyX3 tyX3_ok nmX3 7 (by decide) (List.mem_of_getElem? (i := 10) rfl) rfl (ty := .int) (by decide +kernel) (vp_nar_int _) rfl (Nat.le_of_ble_eq_true rfl) (mup_nf1 G X9 ((nfS X9 1) + (nI 1))) dX3_update_146 (fun H locs hw hS => ?_)
            refine lv_aload_n hx hb dX3_update_149 rfl (lv_at hl 1 rfl) ?_
            refine gf hx hb hown hts hw hT 0 0 (by decide) (ci := 3) rfl rfl (fun _ h => List.mem_cons_of_mem _ (List.mem_append_left _ (List.mem_append_left _ (List.mem_append_left _ (List.mem_append_left _ (List.mem_append_right _ h)))))) 3 (by decide) (List.mem_of_getElem? (i := 4) rfl) (v := .ref (g_ad G 5 ((ipS X9).1))) rfl dX3_update_150 ?_
            refine gf hx hb hown hts hw hT 5 ((ipS X9).1) (show (ipS X9).1 < 4 by omega) (ci := 2) rfl rfl (fun _ h => List.mem_cons_of_mem _ (List.mem_append_left _ (List.mem_append_left _ (List.mem_append_right _ h)))) 1 (by decide) (List.mem_of_getElem? (i := 7) rfl) (v := .int (psS X9 ((ipS X9).1))) rfl dX3_update_153 ?_
            exact rix hx hb hlk hr (by unfold upF; rw [← hX9]; exact hw) hS (by unfold upX; rw [← up_ip S 512, if_neg h2]) (by unfold upF; rw [← hX9, ps_nf, ei9]) (vp_nar_int _) (Nat.le_of_ble_eq_true rfl) (Nat.le_of_ble_eq_true rfl) dX3_update_156
          | succ n2 ih =>
            intro q  H locs ls hn2  hw hS hl
            have hq : q < 512 := by omega
            refine lv_iload_n hx hb dX3_update_116 rfl (lv_at hl 0 rfl) ?_
            refine lv_sipush (v := nI 512) hx hb dX3_update_117 (by decide) ?_
            refine lv_icmp_ge (tgt := 139) hx hb dX3_update_120 (by decide) (fun q => absurd q (nI_ge hq (by decide))) (fun _ => ?_)
            refine lv_aload_n hx hb dX3_update_123 rfl (lv_at hl 1 rfl) ?_
            refine gf hx hb hown hts hw hT 0 0 (by decide) (ci := 3) rfl rfl (fun _ h => List.mem_cons_of_mem _ (List.mem_append_left _ (List.mem_append_left _ (List.mem_append_left _ (List.mem_append_left _ (List.mem_append_right _ h)))))) 1 (by decide) (List.mem_of_getElem? (i := 5) rfl) (v := .ref (g_ad G 3 0)) rfl dX3_update_124 ?_
            refine lv_iload_n hx hb dX3_update_127 rfl (lv_at hl 0 rfl) ?_
            refine abl hx hb hw hT q (show q < 512 by omega) dX3_update_128 ?_
            refine lv_iconst (v := nI 0) hx hb dX3_update_129 (by decide) ?_
            refine top_i (y := bI false) (by decide) ?_
            refine pf (S' := (tcU (upC S q) (va_up (tcS (upC S q)) q false))) hx hb hown hts hw hT hS 4 q (show q < 512 by omega) (ci := 0) rfl rfl (fun _ h => List.mem_cons_of_mem _ (List.mem_append_left _ (List.mem_append_left _ (List.mem_append_left _ (List.mem_append_right _ h))))) tyX0 tyX0_ok nmX0 5 (by decide) (List.mem_of_getElem? (i := 6) rfl) rfl (ty := .boolean) (by decide +kernel) (bI_nar _) (bI_fit _) (Nat.le_of_ble_eq_true rfl) (mup_tc G (upC S q) q false) dX3_update_130 (fun H locs hw hS => ?_)
            refine lv_iinc (v := nI (q + 1)) (lv' := [(2, .int (nI (q + 1))), (0, .ref (g_ad G 0 0))]) hx hb dX3_update_133 hl (k := 0) rfl (nI_add q 1) (by decide) rfl (fun ls hl => ?_)
            refine lv_goto (tgt := 116) hx hb dX3_update_136 (by decide) ?_
            have hw : wdM G (upC S (q + 1)) H s := by rw [← up_s]; exact hw
            exact ih (q + 1)  H locs ls (by omega)  hw hS (lv_sub hl [0, 1] rfl)
        exact LOOP2 512 0  _ _ ls (by omega)  hw hS (lv_sub hl [0, 2] rfl)
      · skip
        have h2 : (nI 16384) < (psS (upS S 512) ((ipS (upS S 512)).2)) := Int32.not_le.mp h2
        exact thrS hx hb hl0 hown hts hlk hml hl.1 hw hT hS hte (by unfold upX; rw [← up_ip S 512, if_pos h2]) (List.mem_of_getElem? (i := 1) rfl) (List.mem_of_getElem? (i := 2) rfl) (fun _ h => List.mem_cons_of_mem _ (List.mem_append_right _ h)) (List.mem_of_getElem? (i := 0) rfl) hS.1 dX3_update_56 dX3_update_59 dX3_update_60 dX3_update_62 dX3_update_65 (Nat.le_of_ble_eq_true rfl) (Nat.le_of_ble_eq_true rfl) (Nat.le_of_ble_eq_true rfl) (Nat.le_of_ble_eq_true rfl) (Nat.le_of_ble_eq_true rfl) (Nat.le_of_ble_eq_true rfl) hz1 hz2
    | succ n ih =>
      intro b  H locs ls hn  hw hS hl
      have hb9 : b < 512 := by omega
      have hip1 : (ipS (upS S b)).1 < 4 := by rw [up_ip]; omega
      have hip2 : (ipS (upS S b)).2 < 4 := by rw [up_ip]; omega
      refine lv_iload_n hx hb dX3_update_13 rfl (lv_at hl 0 rfl) ?_
      refine lv_sipush (v := nI 512) hx hb dX3_update_14 (by decide) ?_
      refine lv_icmp_ge (tgt := 43) hx hb dX3_update_17 (by decide) (fun q => absurd q (nI_ge hb9 (by decide))) (fun _ => ?_)
      refine lv_aload_n hx hb dX3_update_20 rfl (lv_at hl 1 rfl) ?_
      refine gf hx hb hown hts hw hT 0 0 (by decide) (ci := 3) rfl rfl (fun _ h => List.mem_cons_of_mem _ (List.mem_append_left _ (List.mem_append_left _ (List.mem_append_left _ (List.mem_append_left _ (List.mem_append_right _ h)))))) 1 (by decide) (List.mem_of_getElem? (i := 5) rfl) (v := .ref (g_ad G 3 0)) rfl dX3_update_21 ?_
      refine lv_iload_n hx hb dX3_update_24 rfl (lv_at hl 0 rfl) ?_
      refine abl hx hb hw hT b (show b < 512 by omega) dX3_update_25 ?_
      refine gf hx hb hown hts hw hT 4 b (show b < 512 by omega) (ci := 0) rfl rfl (fun _ h => List.mem_cons_of_mem _ (List.mem_append_left _ (List.mem_append_left _ (List.mem_append_left _ (List.mem_append_right _ h))))) 5 (by decide) (List.mem_of_getElem? (i := 6) rfl) (v := .int (bI (tcS (upS S b) b))) rfl dX3_update_26 ?_
      refine lv_if_eq (tgt := 37) hx hb dX3_update_29 (by decide) (fun h6 => ?_) (fun h6 => ?_)
      · skip
        have h6 := bI_0.mp h6
        refine lv_iinc (v := nI (b + 1)) (lv' := [(1, .int (nI (b + 1))), (0, .ref (g_ad G 0 0))]) hx hb dX3_update_37 hl (k := 0) rfl (nI_add b 1) (by decide) rfl (fun ls hl => ?_)
        refine lv_goto (tgt := 13) hx hb dX3_update_40 (by decide) ?_
        have hw : wdM G (upS S (b + 1)) H s := by
          rw [upS, if_neg (by rw [h6]; decide)]
          exact hw
        exact ih (b + 1)  H locs ls (by omega)  hw hS (lv_sub hl [0, 1] rfl)
      · skip
        have h6 := bI_n0.mp h6
        refine lv_aload_n hx hb dX3_update_32 rfl (lv_at hl 1 rfl) ?_
        refine lv_iload_n hx hb dX3_update_33 rfl (lv_at hl 0 rfl) ?_
        refine cVv ⟨hx, hb, hml, hown, hts⟩ (c_reviewPairsOf l G (upS S b) (by omega) (by omega) b (by omega)) (cwV 1 hts gX3_update_X3_reviewPairsOf rfl rfl rfl (by decide +kernel) ⟨(Nat.le_of_ble_eq_true rfl), (Nat.le_of_ble_eq_true rfl)⟩) hw hT hS (rcv hw hT 0 0 (by decide) rfl rfl) (As := [.int (nI b)]) (rest := []) rfl hl.1 rfl (Nat.le_of_ble_eq_true rfl) dX3_update_34 ⟨(Nat.le_of_ble_eq_true rfl), (Nat.le_of_ble_eq_true rfl)⟩ (fun H locs hw hS => ?_)
        refine lv_iinc (v := nI (b + 1)) (lv' := [(1, .int (nI (b + 1))), (0, .ref (g_ad G 0 0))]) hx hb dX3_update_37 hl (k := 0) rfl (nI_add b 1) (by decide) rfl (fun ls hl => ?_)
        refine lv_goto (tgt := 13) hx hb dX3_update_40 (by decide) ?_
        have hw : wdM G (upS S (b + 1)) H s := by
          rw [upS, if_pos h6]
          exact hw
        exact ih (b + 1)  H locs ls (by omega)  hw hS (lv_sub hl [0, 1] rfl)
  exact LOOP 512 0  _ _ ls (by omega)  hw hS (lv_sub hl [0, 1] rfl)
