/-! The law's loop -/
/-- the room is measured by TURN, on each machine anew: only what the proof needs of it -/
theorem rm_c : 3000 ≤ room_1.cells := by decide +kernel
theorem rm_s : 73000 ≤ room_1.slots := by decide +kernel
theorem gt_L {L i : Nat} (hL : L ≤ 448) (hi : i ≤ 448) : nI L - nI 7 < nI i ↔ L < i + 7 := by
  rw [Int32.lt_iff_toInt_lt, pk_sub_toInt (by omega) (by omega), nI_toInt (by omega)]
  omega
set_option maxRecDepth 100000 in
set_option maxHeartbeats 2000000 in
theorem law_loop {p : Program} {l : Launch} {e : Env} {s : State} {m : MethodId} {below : List Frame} {meth : Method} {c : Code} {b L : Nat} {xs : Nat → Int32} {G : Gm} (C : LC p l s m c b L xs G) (hr : meth.sig.returnType = ret) (hlk : meth.locks = false) (hAs : ∀ q, g_A G q → s.heap.size ≤ q) :
    ∀ (n t : Nat) (S : St) (H : Heap) (locs : List Loc) (ls : Array Slot), t + n = 64 → Rel S S → wdM G S H s → va_S (g_A G) s.heap H locs → lv_has ls 8 (LV G b (7 * t)) → W p l e room_1 s m #[Value.ref b] below meth c H locs (2700 + 3 * t) (71000 + 18 * t) (lw_Z below #[Value.ref b] s) (F0 m 28 ls []) := by
  obtain ⟨hx, hb, hml, hown, hts, hX, hbl, hbA, hT, hN, hl0, hL⟩ := id C
  have head : ∀ (t : Nat) (S : St) (H : Heap) (locs : List Loc) (ls : Array Slot), t ≤ 64 → wdM G S H s → va_S (g_A G) s.heap H locs → lv_has ls 8 (LV G b (7 * t)) → (7 * t + 7 ≤ L → W p l e room_1 s m #[Value.ref b] below meth c H locs (2700 + 3 * t) (71000 + 18 * t) (lw_Z below #[Value.ref b] s) (F0 m 38 ls [])) → W p l e room_1 s m #[Value.ref b] below meth c H locs (2700 + 3 * t) (71000 + 18 * t) (lw_Z below #[Value.ref b] s) (F0 m 28 ls []) := by
    intro t S H locs ls ht hw hS hl k
    refine lv_iload hx hb dL_law_28 (lv_at hl 5 rfl) ?_
    refine lv_aload_n hx hb dL_law_30 rfl (lv_at hl 0 rfl) ?_
    refine va_slen hx hb hX hbl hbA hS dL_law_31 ?_
    refine top_i (y := nI L) rfl ?_
    refine lv_bipush (v := nI 7) hx hb dL_law_32 (by decide) ?_
    refine lv_isub hx hb dL_law_34 ?_
    refine lv_icmp_gt (tgt := 1516) hx hb dL_law_35 (by decide) (fun h => ?_) (fun h => ?_)
    · refine lv_iconst (v := 1) hx hb dL_law_1516 (by decide) ?_
      refine va_forget (fun q hq => hAs _ (hS.2.2 q hq)) ?_
      refine W.widen (k := room_1.cells) (n := room_1.slots) (Nat.le_trans (by omega) rm_c) (Nat.le_trans (by omega) rm_s) ?_
      refine W.base ?_
      exact lw_ret (Drawn.sameBut.refl s.drawn lw_cs) hx hb hr hlk dL_law_1517
    · refine k ?_
      rcases Nat.lt_or_ge L (7 * t + 7) with z | z
      · exact absurd ((gt_L hL (by omega)).mpr z) h
      · exact z
  intro n
  induction n with
  | zero =>
    intro t S H locs ls hn hR hw hS hl
    exact head t S H locs ls (by omega) hw hS hl (fun z => absurd z (by omega))
  | succ n ih =>
    intro t S H locs ls hn hR hw hS hl
    refine head t S H locs ls (by omega) hw hS hl (fun hi => ?_)
    have hcs : 2700 + 3 * t + 3 ≤ room_1.cells ∧ 71000 + 18 * t + 18 ≤ room_1.slots := ⟨Nat.le_trans (by omega) rm_c, Nat.le_trans (by omega) rm_s⟩
    have kk : ∀ (S' : St) (H : Heap) (locs : List Loc) (ls : Array Slot), Rel S' S' → wdM G S' H s → va_S (g_A G) s.heap H locs → lv_has ls 8 (LV G b (7 * t)) → W p l e room_1 s m #[Value.ref b] below meth c H locs (2700 + 3 * t + 3) (71000 + 18 * t + 18) (lw_Z below #[Value.ref b] s) (F0 m 1510 ls []) := by
      intro S' H locs ls hR hw hS hl
      refine lv_iinc (v := nI (7 * (t + 1))) (lv' := [(5, .int (nI (7 * (t + 1)))), (0, .ref b), (1, .ref (g_ad G 0 0)), (2, .ref (g_ad G 9 0)), (3, .ref (g_ad G 13 0)), (4, .ref (g_ad G 14 0))]) hx hb dL_law_1510 hl (k := 5) rfl (nI_add (7 * t) 7) (by decide) rfl (fun ls hl => ?_)
      refine lv_goto (tgt := 28) hx hb dL_law_1513 (by decide) ?_
      refine W.widen (k := 2700 + 3 * (t + 1)) (n := 71000 + 18 * (t + 1)) (by omega) (by omega) ?_
      exact ih (t + 1) S' H locs ls (by omega) hR hw hS (lv_sub hl [1, 2, 3, 4, 5, 0] rfl)
    refine lv_aload_n hx hb dL_law_38 rfl (lv_at hl 0 rfl) ?_
    refine lv_iload hx hb dL_law_39 (lv_at hl 5 rfl) ?_
    refine sld hx hb hX hbl hbA hS (7 * t) (by omega) (by omega) rfl dL_law_41 ?_
    refine lv_bipush (v := nI 31) hx hb dL_law_42 (by decide) ?_
    refine lv_iand hx hb dL_law_44 ?_
    obtain ⟨j, hj, ej⟩ := pk_andE (xs (7 * t)) (m := nI 31) 5 (by decide)
    refine top_i (y := nI j) ej ?_
    by_cases h0 : j = 0
    · subst h0
      refine lv_tableIn (off := 91) (tgt := 136) hx hb dL_law_45 (by decide) (by decide) (by decide) (by decide) ?_
      exact k_low C hR hw hS hl hi hcs kk
    by_cases h1 : j = 1
    · subst h1
      refine lv_tableIn (off := 175) (tgt := 220) hx hb dL_law_45 (by decide) (by decide) (by decide) (by decide) ?_
      exact k_high C hR hw hS hl hi hcs kk
    by_cases h2 : j = 2
    · subst h2
      refine lv_tableIn (off := 259) (tgt := 304) hx hb dL_law_45 (by decide) (by decide) (by decide) (by decide) ?_
      exact k_add C hR hw hS hl hi hcs kk
    by_cases h3 : j = 3
    · subst h3
      refine lv_tableIn (off := 327) (tgt := 372) hx hb dL_law_45 (by decide) (by decide) (by decide) (by decide) ?_
      exact k_addRow C hR hw hS hl hi hcs kk
    by_cases h4 : j = 4
    · subst h4
      refine lv_tableIn (off := 469) (tgt := 514) hx hb dL_law_45 (by decide) (by decide) (by decide) (by decide) ?_
      exact k_move C hR hw hS hl hi hcs kk
    by_cases h5 : j = 5
    · subst h5
      refine lv_tableIn (off := 592) (tgt := 637) hx hb dL_law_45 (by decide) (by decide) (by decide) (by decide) ?_
      exact k_shift C hR hw hS hl hi hcs kk
    by_cases h6 : j = 6
    · subst h6
      refine lv_tableIn (off := 720) (tgt := 765) hx hb dL_law_45 (by decide) (by decide) (by decide) (by decide) ?_
      exact k_filter C hR hw hS hl hi hcs kk
    by_cases h7 : j = 7
    · subst h7
      refine lv_tableIn (off := 780) (tgt := 825) hx hb dL_law_45 (by decide) (by decide) (by decide) (by decide) ?_
      exact k_remove C hR hw hS hl hi hcs kk
    by_cases h8 : j = 8
    · subst h8
      refine lv_tableIn (off := 836) (tgt := 881) hx hb dL_law_45 (by decide) (by decide) (by decide) (by decide) ?_
      exact k_update C hR hw hS hl hi hcs kk
    by_cases h9 : j = 9
    · subst h9
      refine lv_tableIn (off := 880) (tgt := 925) hx hb dL_law_45 (by decide) (by decide) (by decide) (by decide) ?_
      exact k_pair C hR hw hS hl hi hcs kk
    by_cases h10 : j = 10
    · subst h10
      refine lv_tableIn (off := 948) (tgt := 993) hx hb dL_law_45 (by decide) (by decide) (by decide) (by decide) ?_
      exact k_paired C hR hw hS hl hi hcs kk
    by_cases h11 : j = 11
    · subst h11
      refine lv_tableIn (off := 1023) (tgt := 1068) hx hb dL_law_45 (by decide) (by decide) (by decide) (by decide) ?_
      exact k_overlapping C hR hw hS hl hi hcs kk
    by_cases h12 : j = 12
    · subst h12
      refine lv_tableIn (off := 1079) (tgt := 1124) hx hb dL_law_45 (by decide) (by decide) (by decide) (by decide) ?_
      exact k_meeting C hR hw hS hl hi hcs kk
    by_cases h13 : j = 13
    · subst h13
      refine lv_tableIn (off := 1104) (tgt := 1149) hx hb dL_law_45 (by decide) (by decide) (by decide) (by decide) ?_
      exact k_found C hR hw hS hl hi hcs kk
    by_cases h14 : j = 14
    · subst h14
      refine lv_tableIn (off := 1160) (tgt := 1205) hx hb dL_law_45 (by decide) (by decide) (by decide) (by decide) ?_
      exact k_where C hR hw hS hl hi hcs kk
    by_cases h15 : j = 15
    · subst h15
      refine lv_tableIn (off := 1238) (tgt := 1283) hx hb dL_law_45 (by decide) (by decide) (by decide) (by decide) ?_
      exact k_nearest C hR hw hS hl hi hcs kk
    by_cases h16 : j = 16
    · subst h16
      refine lv_tableIn (off := 1251) (tgt := 1296) hx hb dL_law_45 (by decide) (by decide) (by decide) (by decide) ?_
      exact k_corner C hR hw hS hl hi hcs kk
    by_cases h17 : j = 17
    · subst h17
      refine lv_tableIn (off := 1341) (tgt := 1386) hx hb dL_law_45 (by decide) (by decide) (by decide) (by decide) ?_
      exact k_about C hR hw hS hl hi hcs kk
    by_cases h18 : j = 18
    · subst h18
      refine lv_tableIn (off := 1409) (tgt := 1454) hx hb dL_law_45 (by decide) (by decide) (by decide) (by decide) ?_
      exact k_count C hR hw hS hl hi hcs kk
    refine lv_tableOut (tgt := 1510) hx hb dL_law_45 (Or.inr (by rw [nI_toInt (by omega)]; omega)) (by decide) ?_
    refine W.widen (k := 2700 + 3 * t + 3) (n := 71000 + 18 * t + 18) (by omega) (by omega) ?_
    exact kk S H locs ls hR hw hS hl
