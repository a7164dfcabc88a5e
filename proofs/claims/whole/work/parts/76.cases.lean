/-! The law's cases -/
set_option maxRecDepth 100000 in
set_option maxHeartbeats 1000000 in
theorem k_low {p : Program} {l : Launch} {e : Env} {s : State} {m : MethodId} {below : List Frame} {meth : Method} {c : Code} {b L : Nat} {xs : Nat → Int32} {G : Gm} (C : LC p l s m c b L xs G) {S : St} {H : Heap} {locs : List Loc} {ls : Array Slot} {cells slots i : Nat} {Q : State → Prop} (hR : Rel S S) (hw : wdM G S H s) (hS : va_S (g_A G) s.heap H locs) (hl : lv_has ls 8 (LV G b i)) (hi : i + 7 ≤ L) (hcs : cells + 3 ≤ room_1.cells ∧ slots + 18 ≤ room_1.slots)
    (kk : ∀ (S' : St) (H : Heap) (locs : List Loc) (ls : Array Slot), Rel S' S' → wdM G S' H s → va_S (g_A G) s.heap H locs → lv_has ls 8 (LV G b i) → W p l e room_1 s m #[Value.ref b] below meth c H locs (cells + 3) (slots + 18) Q (F0 m 1510 ls [])) : W p l e room_1 s m #[Value.ref b] below meth c H locs cells slots Q (F0 m 136 ls []) := by
  obtain ⟨hx, hb, hml, hown, hts, hX, hbl, hbA, hT, hN, hl0, hL⟩ := C
  have hl : lv_has ls 8 [(0, .ref b), (1, .ref (g_ad G 0 0)), (2, .ref (g_ad G 9 0)), (3, .ref (g_ad G 13 0)), (4, .ref (g_ad G 14 0)), (5, .int (nI i))] := hl
  obtain ⟨a1, ha1⟩ : ∃ z, z = xs (i + 1) := ⟨_, rfl⟩
  obtain ⟨f1, hf1⟩ : ∃ z, z = FP.fmul (FP.i2f a1) 1040187392 := ⟨_, rfl⟩
  obtain ⟨a2, ha2⟩ : ∃ z, z = xs (i + 2) := ⟨_, rfl⟩
  obtain ⟨f2, hf2⟩ : ∃ z, z = FP.fmul (FP.i2f a2) 1040187392 := ⟨_, rfl⟩
  obtain ⟨a3, ha3⟩ : ∃ z, z = xs (i + 3) := ⟨_, rfl⟩
  obtain ⟨f3, hf3⟩ : ∃ z, z = FP.fmul (FP.i2f a3) 1040187392 := ⟨_, rfl⟩
  refine lv_aload_n hx hb dL_law_136 rfl (lv_at hl 1 rfl) ?_
  refine lv_aload_n hx hb dL_law_137 rfl (lv_at hl 0 rfl) ?_
  refine lv_iload hx hb dL_law_138 (lv_at hl 5 rfl) ?_
  refine lv_iconst (v := nI 1) hx hb dL_law_140 (by decide) ?_
  refine lv_iadd hx hb dL_law_141 ?_
  refine top_i (y := nI (i + 1)) (nI_add i 1) ?_
  refine sld hx hb hX hbl hbA hS (i + 1) (by omega) (by omega) (v := a1) ha1.symm dL_law_142 ?_
  refine lv_i2f hx hb dL_law_143 ?_
  refine lv_ldcf (v := 1040187392) hx hb hown (hts _ law_cf) dL_law_144 ?_
  refine lv_fmul hx hb dL_law_146 (v_arg a1) ?_
  refine top_f (y := f1) hf1.symm ?_
  refine lv_aload_n hx hb dL_law_147 rfl (lv_at hl 0 rfl) ?_
  refine lv_iload hx hb dL_law_148 (lv_at hl 5 rfl) ?_
  refine lv_iconst (v := nI 2) hx hb dL_law_150 (by decide) ?_
  refine lv_iadd hx hb dL_law_151 ?_
  refine top_i (y := nI (i + 2)) (nI_add i 2) ?_
  refine sld hx hb hX hbl hbA hS (i + 2) (by omega) (by omega) (v := a2) ha2.symm dL_law_152 ?_
  refine lv_i2f hx hb dL_law_153 ?_
  refine lv_ldcf (v := 1040187392) hx hb hown (hts _ law_cf) dL_law_154 ?_
  refine lv_fmul hx hb dL_law_156 (v_arg a2) ?_
  refine top_f (y := f2) hf2.symm ?_
  refine lv_aload_n hx hb dL_law_157 rfl (lv_at hl 0 rfl) ?_
  refine lv_iload hx hb dL_law_158 (lv_at hl 5 rfl) ?_
  refine lv_iconst (v := nI 3) hx hb dL_law_160 (by decide) ?_
  refine lv_iadd hx hb dL_law_161 ?_
  refine top_i (y := nI (i + 3)) (nI_add i 3) ?_
  refine sld hx hb hX hbl hbA hS (i + 3) (by omega) (by omega) (v := a3) ha3.symm dL_law_162 ?_
  refine lv_i2f hx hb dL_law_163 ?_
  refine lv_ldcf (v := 1040187392) hx hb hown (hts _ law_cf) dL_law_164 ?_
  refine lv_fmul hx hb dL_law_166 (v_arg a3) ?_
  refine top_f (y := f3) hf3.symm ?_
  refine cLi ⟨hx, hb, hml, hown, hts⟩ (h_low l G S hl0 f1 f2 f3 ) (vx_cwSW 4 hts gL_law_L_low rfl rfl rfl (by decide +kernel) ⟨(Nat.le_of_ble_eq_true rfl), (Nat.le_of_ble_eq_true rfl)⟩) hw hT hN hS (As := [.ref (g_ad G 0 0), .float f1, .float f2, .float f3]) (rest := []) rfl hl.1 rfl (Nat.le_of_ble_eq_true rfl) dL_law_167 ⟨Nat.le_trans (show cells + _ ≤ cells + 3 from Nat.add_le_add_left (Nat.le_of_ble_eq_true rfl) _) hcs.1, Nat.le_trans (show slots + _ ≤ slots + 18 from Nat.add_le_add_left (Nat.le_of_ble_eq_true rfl) _) hcs.2⟩ (fun H locs hw hS => ?_)
  refine W.widen (k := cells + 3) (n := slots + 18) (Nat.add_le_add_left (Nat.le_of_ble_eq_true rfl) _) (Nat.add_le_add_left (Nat.le_of_ble_eq_true rfl) _) ?_
  obtain ⟨T, hT9⟩ : ∃ z, z = enS (goodX f1 f2 f3) S (pcS S 0 f1 f2 f3) := ⟨_, rfl⟩
  rw [← hT9] at hw
  have hMT : MSt T = MSt S := by rw [hT9]; exact (M_en rfl (M_pc _ _ _ _ _))
  have hRT : Rel S T := hR.cls hMT
  have hCT : CSt T = CSt (enS (goodX f1 f2 f3) S (pcS S 0 f1 f2 f3)) := by rw [hT9]
  obtain ⟨e1, e3⟩ := r_pad hRT 0 f1 f2 f3
  obtain ⟨k9, hk9⟩ : ∃ z, z = cdX xA (goodX f1 f2 f3) := ⟨_, rfl⟩
  refine top_i (y := k9) hk9.symm ?_
  refine lv_istore (lv' := [(6, .int k9), (0, .ref b), (1, .ref (g_ad G 0 0)), (2, .ref (g_ad G 9 0)), (3, .ref (g_ad G 13 0)), (4, .ref (g_ad G 14 0)), (5, .int (nI i))]) hx hb dL_law_170 hl (by decide) rfl (fun ls hl => ?_)
  refine lv_aload_n hx hb dL_law_172 rfl (lv_at hl 3 rfl) ?_
  refine lv_aload_n hx hb dL_law_173 rfl (lv_at hl 1 rfl) ?_
  refine lv_iload hx hb dL_law_174 (lv_at hl 6 rfl) ?_
  refine lv_iconst (v := nI 1) hx hb dL_law_176 (by decide) ?_
  refine lv_iadd hx hb dL_law_177 ?_
  refine top_i (y := nI (i + 1)) (nI_add i 1) ?_
  refine sld hx hb hX hbl hbA hS (i + 1) (by omega) (by omega) (v := a1) ha1.symm dL_law_178 ?_
  refine lv_i2f hx hb dL_law_179 ?_
  refine lv_ldcf (v := 1040187392) hx hb hown (hts _ law_cf) dL_law_180 ?_
  refine lv_fmul hx hb dL_law_182 (v_arg a1) ?_
  refine top_f (y := f1) hf1.symm ?_
  refine lv_aload_n hx hb dL_law_183 rfl (lv_at hl 1 rfl) ?_
  refine lv_iload hx hb dL_law_184 (lv_at hl 6 rfl) ?_
  refine lv_iconst (v := nI 2) hx hb dL_law_186 (by decide) ?_
  refine lv_iadd hx hb dL_law_187 ?_
  refine top_i (y := nI (i + 2)) (nI_add i 2) ?_
  refine sld hx hb hX hbl hbA hS (i + 2) (by omega) (by omega) (v := a2) ha2.symm dL_law_188 ?_
  refine lv_i2f hx hb dL_law_189 ?_
  refine lv_ldcf (v := 1040187392) hx hb hown (hts _ law_cf) dL_law_190 ?_
  refine lv_fmul hx hb dL_law_192 (v_arg a2) ?_
  refine top_f (y := f2) hf2.symm ?_
  refine lv_aload_n hx hb dL_law_193 rfl (lv_at hl 1 rfl) ?_
  refine lv_iload hx hb dL_law_194 (lv_at hl 6 rfl) ?_
  refine lv_iconst (v := nI 3) hx hb dL_law_196 (by decide) ?_
  refine lv_iadd hx hb dL_law_197 ?_
  refine top_i (y := nI (i + 3)) (nI_add i 3) ?_
  refine sld hx hb hX hbl hbA hS (i + 3) (by omega) (by omega) (v := a3) ha3.symm dL_law_198 ?_
  refine lv_i2f hx hb dL_law_199 ?_
  refine lv_ldcf (v := 1040187392) hx hb hown (hts _ law_cf) dL_law_200 ?_
  refine lv_fmul hx hb dL_law_202 (v_arg a3) ?_
  refine top_f (y := f3) hf3.symm ?_
  refine cVv ⟨hx, hb, hml, hown, hts⟩ (m_low l G T f1 f2 f3) (cwV 3 hts gL_law_X4_low rfl rfl rfl (by decide +kernel) ⟨(Nat.le_of_ble_eq_true rfl), (Nat.le_of_ble_eq_true rfl)⟩) hw hT hS (rcv hw hT 9 0 (by decide) rfl rfl) (As := [.float f1, .float f2, .float f3]) (rest := []) rfl hl.1 rfl (Nat.le_of_ble_eq_true rfl) dL_law_203 ⟨le_z hcs.1, le_z hcs.2⟩ (fun H locs hw hS => ?_)
  refine W.widen (k := cells + 3) (n := slots + 18) (Nat.le_refl _) (Nat.le_refl _) ?_
  obtain ⟨U, hU9⟩ : ∃ z, z = pcM T 0 f1 f2 f3 := ⟨_, rfl⟩
  rw [← hU9] at hw e1 e3
  have hXU : XSt U = XSt T := by rw [hU9]; exact X_pc _ _ _ _ _
  have hRU : Rel U U := e3.law (S := S) hCT hXU
  refine lv_aload_n hx hb dL_law_206 rfl (lv_at hl 3 rfl) ?_
  refine cVi ⟨hx, hb, hml, hown, hts⟩ (m_thrown l G U) (cwV 0 hts gL_law_X4_thrown rfl rfl rfl (by decide +kernel) ⟨(Nat.le_of_ble_eq_true rfl), (Nat.le_of_ble_eq_true rfl)⟩) hw hT hS (rcv hw hT 9 0 (by decide) rfl rfl) (As := []) (rest := []) rfl hl.1 rfl (Nat.le_of_ble_eq_true rfl) dL_law_207 ⟨le_z hcs.1, le_z hcs.2⟩ (fun H locs hw hS => ?_)
  refine W.widen (k := cells + 3) (n := slots + 18) (Nat.le_refl _) (Nat.le_refl _) ?_
  refine lv_iload hx hb dL_law_210 (lv_at hl 0 rfl) ?_
  refine lv_icmp_eq (tgt := 217) hx hb dL_law_212 (by decide) (fun _ => ?_) (fun q => absurd (e1.trans hk9.symm) q)
  refine lv_goto (tgt := 1510) hx hb dL_law_217 (by decide) ?_
  exact kk U H locs ls hRU hw hS (lv_sub hl [1, 2, 3, 4, 5, 6] rfl)
set_option maxRecDepth 100000 in
set_option maxHeartbeats 1000000 in
theorem k_high {p : Program} {l : Launch} {e : Env} {s : State} {m : MethodId} {below : List Frame} {meth : Method} {c : Code} {b L : Nat} {xs : Nat → Int32} {G : Gm} (C : LC p l s m c b L xs G) {S : St} {H : Heap} {locs : List Loc} {ls : Array Slot} {cells slots i : Nat} {Q : State → Prop} (hR : Rel S S) (hw : wdM G S H s) (hS : va_S (g_A G) s.heap H locs) (hl : lv_has ls 8 (LV G b i)) (hi : i + 7 ≤ L) (hcs : cells + 3 ≤ room_1.cells ∧ slots + 18 ≤ room_1.slots)
    (kk : ∀ (S' : St) (H : Heap) (locs : List Loc) (ls : Array Slot), Rel S' S' → wdM G S' H s → va_S (g_A G) s.heap H locs → lv_has ls 8 (LV G b i) → W p l e room_1 s m #[Value.ref b] below meth c H locs (cells + 3) (slots + 18) Q (F0 m 1510 ls [])) : W p l e room_1 s m #[Value.ref b] below meth c H locs cells slots Q (F0 m 220 ls []) := by
  obtain ⟨hx, hb, hml, hown, hts, hX, hbl, hbA, hT, hN, hl0, hL⟩ := C
  have hl : lv_has ls 8 [(0, .ref b), (1, .ref (g_ad G 0 0)), (2, .ref (g_ad G 9 0)), (3, .ref (g_ad G 13 0)), (4, .ref (g_ad G 14 0)), (5, .int (nI i))] := hl
  obtain ⟨a1, ha1⟩ : ∃ z, z = xs (i + 1) := ⟨_, rfl⟩
  obtain ⟨f1, hf1⟩ : ∃ z, z = FP.fmul (FP.i2f a1) 1040187392 := ⟨_, rfl⟩
  obtain ⟨a2, ha2⟩ : ∃ z, z = xs (i + 2) := ⟨_, rfl⟩
  obtain ⟨f2, hf2⟩ : ∃ z, z = FP.fmul (FP.i2f a2) 1040187392 := ⟨_, rfl⟩
  obtain ⟨a3, ha3⟩ : ∃ z, z = xs (i + 3) := ⟨_, rfl⟩
  obtain ⟨f3, hf3⟩ : ∃ z, z = FP.fmul (FP.i2f a3) 1040187392 := ⟨_, rfl⟩
  refine lv_aload_n hx hb dL_law_220 rfl (lv_at hl 1 rfl) ?_
  refine lv_aload_n hx hb dL_law_221 rfl (lv_at hl 0 rfl) ?_
  refine lv_iload hx hb dL_law_222 (lv_at hl 5 rfl) ?_
  refine lv_iconst (v := nI 1) hx hb dL_law_224 (by decide) ?_
  refine lv_iadd hx hb dL_law_225 ?_
  refine top_i (y := nI (i + 1)) (nI_add i 1) ?_
  refine sld hx hb hX hbl hbA hS (i + 1) (by omega) (by omega) (v := a1) ha1.symm dL_law_226 ?_
  refine lv_i2f hx hb dL_law_227 ?_
  refine lv_ldcf (v := 1040187392) hx hb hown (hts _ law_cf) dL_law_228 ?_
  refine lv_fmul hx hb dL_law_230 (v_arg a1) ?_
  refine top_f (y := f1) hf1.symm ?_
  refine lv_aload_n hx hb dL_law_231 rfl (lv_at hl 0 rfl) ?_
  refine lv_iload hx hb dL_law_232 (lv_at hl 5 rfl) ?_
  refine lv_iconst (v := nI 2) hx hb dL_law_234 (by decide) ?_
  refine lv_iadd hx hb dL_law_235 ?_
  refine top_i (y := nI (i + 2)) (nI_add i 2) ?_
  refine sld hx hb hX hbl hbA hS (i + 2) (by omega) (by omega) (v := a2) ha2.symm dL_law_236 ?_
  refine lv_i2f hx hb dL_law_237 ?_
  refine lv_ldcf (v := 1040187392) hx hb hown (hts _ law_cf) dL_law_238 ?_
  refine lv_fmul hx hb dL_law_240 (v_arg a2) ?_
  refine top_f (y := f2) hf2.symm ?_
  refine lv_aload_n hx hb dL_law_241 rfl (lv_at hl 0 rfl) ?_
  refine lv_iload hx hb dL_law_242 (lv_at hl 5 rfl) ?_
  refine lv_iconst (v := nI 3) hx hb dL_law_244 (by decide) ?_
  refine lv_iadd hx hb dL_law_245 ?_
  refine top_i (y := nI (i + 3)) (nI_add i 3) ?_
  refine sld hx hb hX hbl hbA hS (i + 3) (by omega) (by omega) (v := a3) ha3.symm dL_law_246 ?_
  refine lv_i2f hx hb dL_law_247 ?_
  refine lv_ldcf (v := 1040187392) hx hb hown (hts _ law_cf) dL_law_248 ?_
  refine lv_fmul hx hb dL_law_250 (v_arg a3) ?_
  refine top_f (y := f3) hf3.symm ?_
  refine cLi ⟨hx, hb, hml, hown, hts⟩ (h_high l G S hl0 f1 f2 f3 ) (vx_cwSW 4 hts gL_law_L_high rfl rfl rfl (by decide +kernel) ⟨(Nat.le_of_ble_eq_true rfl), (Nat.le_of_ble_eq_true rfl)⟩) hw hT hN hS (As := [.ref (g_ad G 0 0), .float f1, .float f2, .float f3]) (rest := []) rfl hl.1 rfl (Nat.le_of_ble_eq_true rfl) dL_law_251 ⟨Nat.le_trans (show cells + _ ≤ cells + 3 from Nat.add_le_add_left (Nat.le_of_ble_eq_true rfl) _) hcs.1, Nat.le_trans (show slots + _ ≤ slots + 18 from Nat.add_le_add_left (Nat.le_of_ble_eq_true rfl) _) hcs.2⟩ (fun H locs hw hS => ?_)
  refine W.widen (k := cells + 3) (n := slots + 18) (Nat.add_le_add_left (Nat.le_of_ble_eq_true rfl) _) (Nat.add_le_add_left (Nat.le_of_ble_eq_true rfl) _) ?_
  obtain ⟨T, hT9⟩ : ∃ z, z = enS (goodX f1 f2 f3) S (pcS S 3 f1 f2 f3) := ⟨_, rfl⟩
  rw [← hT9] at hw
  have hMT : MSt T = MSt S := by rw [hT9]; exact (M_en rfl (M_pc _ _ _ _ _))
  have hRT : Rel S T := hR.cls hMT
  have hCT : CSt T = CSt (enS (goodX f1 f2 f3) S (pcS S 3 f1 f2 f3)) := by rw [hT9]
  obtain ⟨e1, e3⟩ := r_pad hRT 3 f1 f2 f3
  obtain ⟨k9, hk9⟩ : ∃ z, z = cdX xA (goodX f1 f2 f3) := ⟨_, rfl⟩
  refine top_i (y := k9) hk9.symm ?_
  refine lv_istore (lv' := [(6, .int k9), (0, .ref b), (1, .ref (g_ad G 0 0)), (2, .ref (g_ad G 9 0)), (3, .ref (g_ad G 13 0)), (4, .ref (g_ad G 14 0)), (5, .int (nI i))]) hx hb dL_law_254 hl (by decide) rfl (fun ls hl => ?_)
  refine lv_aload_n hx hb dL_law_256 rfl (lv_at hl 3 rfl) ?_
  refine lv_aload_n hx hb dL_law_257 rfl (lv_at hl 1 rfl) ?_
  refine lv_iload hx hb dL_law_258 (lv_at hl 6 rfl) ?_
  refine lv_iconst (v := nI 1) hx hb dL_law_260 (by decide) ?_
  refine lv_iadd hx hb dL_law_261 ?_
  refine top_i (y := nI (i + 1)) (nI_add i 1) ?_
  refine sld hx hb hX hbl hbA hS (i + 1) (by omega) (by omega) (v := a1) ha1.symm dL_law_262 ?_
  refine lv_i2f hx hb dL_law_263 ?_
  refine lv_ldcf (v := 1040187392) hx hb hown (hts _ law_cf) dL_law_264 ?_
  refine lv_fmul hx hb dL_law_266 (v_arg a1) ?_
  refine top_f (y := f1) hf1.symm ?_
  refine lv_aload_n hx hb dL_law_267 rfl (lv_at hl 1 rfl) ?_
  refine lv_iload hx hb dL_law_268 (lv_at hl 6 rfl) ?_
  refine lv_iconst (v := nI 2) hx hb dL_law_270 (by decide) ?_
  refine lv_iadd hx hb dL_law_271 ?_
  refine top_i (y := nI (i + 2)) (nI_add i 2) ?_
  refine sld hx hb hX hbl hbA hS (i + 2) (by omega) (by omega) (v := a2) ha2.symm dL_law_272 ?_
  refine lv_i2f hx hb dL_law_273 ?_
  refine lv_ldcf (v := 1040187392) hx hb hown (hts _ law_cf) dL_law_274 ?_
  refine lv_fmul hx hb dL_law_276 (v_arg a2) ?_
  refine top_f (y := f2) hf2.symm ?_
  refine lv_aload_n hx hb dL_law_277 rfl (lv_at hl 1 rfl) ?_
  refine lv_iload hx hb dL_law_278 (lv_at hl 6 rfl) ?_
  refine lv_iconst (v := nI 3) hx hb dL_law_280 (by decide) ?_
  refine lv_iadd hx hb dL_law_281 ?_
  refine top_i (y := nI (i + 3)) (nI_add i 3) ?_
  refine sld hx hb hX hbl hbA hS (i + 3) (by omega) (by omega) (v := a3) ha3.symm dL_law_282 ?_
  refine lv_i2f hx hb dL_law_283 ?_
  refine lv_ldcf (v := 1040187392) hx hb hown (hts _ law_cf) dL_law_284 ?_
  refine lv_fmul hx hb dL_law_286 (v_arg a3) ?_
  refine top_f (y := f3) hf3.symm ?_
  refine cVv ⟨hx, hb, hml, hown, hts⟩ (m_high l G T f1 f2 f3) (cwV 3 hts gL_law_X4_high rfl rfl rfl (by decide +kernel) ⟨(Nat.le_of_ble_eq_true rfl), (Nat.le_of_ble_eq_true rfl)⟩) hw hT hS (rcv hw hT 9 0 (by decide) rfl rfl) (As := [.float f1, .float f2, .float f3]) (rest := []) rfl hl.1 rfl (Nat.le_of_ble_eq_true rfl) dL_law_287 ⟨le_z hcs.1, le_z hcs.2⟩ (fun H locs hw hS => ?_)
  refine W.widen (k := cells + 3) (n := slots + 18) (Nat.le_refl _) (Nat.le_refl _) ?_
  obtain ⟨U, hU9⟩ : ∃ z, z = pcM T 3 f1 f2 f3 := ⟨_, rfl⟩
  rw [← hU9] at hw e1 e3
  have hXU : XSt U = XSt T := by rw [hU9]; exact X_pc _ _ _ _ _
  have hRU : Rel U U := e3.law (S := S) hCT hXU
  refine lv_aload_n hx hb dL_law_290 rfl (lv_at hl 3 rfl) ?_
  refine cVi ⟨hx, hb, hml, hown, hts⟩ (m_thrown l G U) (cwV 0 hts gL_law_X4_thrown rfl rfl rfl (by decide +kernel) ⟨(Nat.le_of_ble_eq_true rfl), (Nat.le_of_ble_eq_true rfl)⟩) hw hT hS (rcv hw hT 9 0 (by decide) rfl rfl) (As := []) (rest := []) rfl hl.1 rfl (Nat.le_of_ble_eq_true rfl) dL_law_291 ⟨le_z hcs.1, le_z hcs.2⟩ (fun H locs hw hS => ?_)
  refine W.widen (k := cells + 3) (n := slots + 18) (Nat.le_refl _) (Nat.le_refl _) ?_
  refine lv_iload hx hb dL_law_294 (lv_at hl 0 rfl) ?_
  refine lv_icmp_eq (tgt := 301) hx hb dL_law_296 (by decide) (fun _ => ?_) (fun q => absurd (e1.trans hk9.symm) q)
  refine lv_goto (tgt := 1510) hx hb dL_law_301 (by decide) ?_
  exact kk U H locs ls hRU hw hS (lv_sub hl [1, 2, 3, 4, 5, 6] rfl)
set_option maxRecDepth 100000 in
set_option maxHeartbeats 1000000 in
theorem k_add {p : Program} {l : Launch} {e : Env} {s : State} {m : MethodId} {below : List Frame} {meth : Method} {c : Code} {b L : Nat} {xs : Nat → Int32} {G : Gm} (C : LC p l s m c b L xs G) {S : St} {H : Heap} {locs : List Loc} {ls : Array Slot} {cells slots i : Nat} {Q : State → Prop} (hR : Rel S S) (hw : wdM G S H s) (hS : va_S (g_A G) s.heap H locs) (hl : lv_has ls 8 (LV G b i)) (hi : i + 7 ≤ L) (hcs : cells + 3 ≤ room_1.cells ∧ slots + 18 ≤ room_1.slots)
    (kk : ∀ (S' : St) (H : Heap) (locs : List Loc) (ls : Array Slot), Rel S' S' → wdM G S' H s → va_S (g_A G) s.heap H locs → lv_has ls 8 (LV G b i) → W p l e room_1 s m #[Value.ref b] below meth c H locs (cells + 3) (slots + 18) Q (F0 m 1510 ls [])) : W p l e room_1 s m #[Value.ref b] below meth c H locs cells slots Q (F0 m 304 ls []) := by
  obtain ⟨hx, hb, hml, hown, hts, hX, hbl, hbA, hT, hN, hl0, hL⟩ := C
  have hl : lv_has ls 8 [(0, .ref b), (1, .ref (g_ad G 0 0)), (2, .ref (g_ad G 9 0)), (3, .ref (g_ad G 13 0)), (4, .ref (g_ad G 14 0)), (5, .int (nI i))] := hl
  obtain ⟨a1, ha1⟩ : ∃ z, z = xs (i + 1) := ⟨_, rfl⟩
  obtain ⟨a2, ha2⟩ : ∃ z, z = xs (i + 2) := ⟨_, rfl⟩
  refine lv_aload_n hx hb dL_law_304 rfl (lv_at hl 1 rfl) ?_
  refine lv_aload_n hx hb dL_law_305 rfl (lv_at hl 0 rfl) ?_
  refine lv_iload hx hb dL_law_306 (lv_at hl 5 rfl) ?_
  refine lv_iconst (v := nI 1) hx hb dL_law_308 (by decide) ?_
  refine lv_iadd hx hb dL_law_309 ?_
  refine top_i (y := nI (i + 1)) (nI_add i 1) ?_
  refine sld hx hb hX hbl hbA hS (i + 1) (by omega) (by omega) (v := a1) ha1.symm dL_law_310 ?_
  refine lv_aload_n hx hb dL_law_311 rfl (lv_at hl 0 rfl) ?_
  refine lv_iload hx hb dL_law_312 (lv_at hl 5 rfl) ?_
  refine lv_iconst (v := nI 2) hx hb dL_law_314 (by decide) ?_
  refine lv_iadd hx hb dL_law_315 ?_
  refine top_i (y := nI (i + 2)) (nI_add i 2) ?_
  refine sld hx hb hX hbl hbA hS (i + 2) (by omega) (by omega) (v := a2) ha2.symm dL_law_316 ?_
  refine lv_aload_n hx hb dL_law_317 rfl (lv_at hl 3 rfl) ?_
  refine cLi ⟨hx, hb, hml, hown, hts⟩ (h_add l G S hl0 a1 a2 hR.1.2) (vx_cwSW 4 hts gL_law_L_add rfl rfl rfl (by decide +kernel) ⟨(Nat.le_of_ble_eq_true rfl), (Nat.le_of_ble_eq_true rfl)⟩) hw hT hN hS (As := [.ref (g_ad G 0 0), .int a1, .int a2, .ref (g_ad G 13 0)]) (rest := []) rfl hl.1 rfl (Nat.le_of_ble_eq_true rfl) dL_law_318 ⟨Nat.le_trans (show cells + _ ≤ cells + 3 from Nat.add_le_add_left (Nat.le_of_ble_eq_true rfl) _) hcs.1, Nat.le_trans (show slots + _ ≤ slots + 18 from Nat.add_le_add_left (Nat.le_of_ble_eq_true rfl) _) hcs.2⟩ (fun H locs hw hS => ?_)
  refine W.widen (k := cells + 3) (n := slots + 18) (Nat.add_le_add_left (Nat.le_of_ble_eq_true rfl) _) (Nat.add_le_add_left (Nat.le_of_ble_eq_true rfl) _) ?_
  obtain ⟨T, hT9⟩ : ∃ z, z = enS (orX (padX S) (roomX S (nI 1))) S (ouU (abT 1 FP.fconst0 FP.fconst0 FP.fconst0 a1 a2 S) (va_up (ouS (abT 1 FP.fconst0 FP.fconst0 FP.fconst0 a1 a2 S)) 0 (((abD 1 FP.fconst0 FP.fconst0 FP.fconst0 a1 a2 S).2.1).toInt64))) := ⟨_, rfl⟩
  rw [← hT9] at hw
  have hMT : MSt T = MSt S := by rw [hT9]; exact (M_en rfl ((M_ou _ _).trans (M_abT _ _ _ _ _ _ _)))
  have hRT : Rel S T := hR.cls hMT
  have hCT : CSt T = CSt (enS (orX (padX S) (roomX S (nI 1))) S (abT 1 FP.fconst0 FP.fconst0 FP.fconst0 a1 a2 S)) := by rw [hT9]; exact C_en
  obtain ⟨e1, e2, e3⟩ := r_add hRT a1 a2
  obtain ⟨k9, hk9⟩ : ∃ z, z = cdX xA (orX (padX S) (roomX S (nI 1))) := ⟨_, rfl⟩
  refine top_i (y := k9) hk9.symm ?_
  refine lv_istore (lv' := [(6, .int k9), (0, .ref b), (1, .ref (g_ad G 0 0)), (2, .ref (g_ad G 9 0)), (3, .ref (g_ad G 13 0)), (4, .ref (g_ad G 14 0)), (5, .int (nI i))]) hx hb dL_law_321 hl (by decide) rfl (fun ls hl => ?_)
  refine lv_aload_n hx hb dL_law_323 rfl (lv_at hl 3 rfl) ?_
  refine lv_aload_n hx hb dL_law_324 rfl (lv_at hl 1 rfl) ?_
  refine lv_iload hx hb dL_law_325 (lv_at hl 6 rfl) ?_
  refine lv_iconst (v := nI 1) hx hb dL_law_327 (by decide) ?_
  refine lv_iadd hx hb dL_law_328 ?_
  refine top_i (y := nI (i + 1)) (nI_add i 1) ?_
  refine sld hx hb hX hbl hbA hS (i + 1) (by omega) (by omega) (v := a1) ha1.symm dL_law_329 ?_
  refine lv_aload_n hx hb dL_law_330 rfl (lv_at hl 1 rfl) ?_
  refine lv_iload hx hb dL_law_331 (lv_at hl 6 rfl) ?_
  refine lv_iconst (v := nI 2) hx hb dL_law_333 (by decide) ?_
  refine lv_iadd hx hb dL_law_334 ?_
  refine top_i (y := nI (i + 2)) (nI_add i 2) ?_
  refine sld hx hb hX hbl hbA hS (i + 2) (by omega) (by omega) (v := a2) ha2.symm dL_law_335 ?_
  refine cVi ⟨hx, hb, hml, hown, hts⟩ (m_add l G T hRT.gb a1 a2) (cwV 2 hts gL_law_X4_add rfl rfl rfl (by decide +kernel) ⟨(Nat.le_of_ble_eq_true rfl), (Nat.le_of_ble_eq_true rfl)⟩) hw hT hS (rcv hw hT 9 0 (by decide) rfl rfl) (As := [.int a1, .int a2]) (rest := []) rfl hl.1 rfl (Nat.le_of_ble_eq_true rfl) dL_law_336 ⟨le_z hcs.1, le_z hcs.2⟩ (fun H locs hw hS => ?_)
  refine W.widen (k := cells + 3) (n := slots + 18) (Nat.le_refl _) (Nat.le_refl _) ?_
  obtain ⟨U, hU9⟩ : ∃ z, z = adMS T a1 a2 := ⟨_, rfl⟩
  rw [← hU9] at hw e1 e3
  have hXU : XSt U = XSt T := by rw [hU9]; exact X_ad _ _ _
  have hRU : Rel U U := e3.law (S := S) hCT hXU
  refine lv_istore (lv' := [(7, .int (adMI T)), (6, .int k9), (0, .ref b), (1, .ref (g_ad G 0 0)), (2, .ref (g_ad G 9 0)), (3, .ref (g_ad G 13 0)), (4, .ref (g_ad G 14 0)), (5, .int (nI i))]) hx hb dL_law_339 hl (by decide) rfl (fun ls hl => ?_)
  refine lv_aload_n hx hb dL_law_341 rfl (lv_at hl 4 rfl) ?_
  refine cVi ⟨hx, hb, hml, hown, hts⟩ (m_thrown l G U) (cwV 0 hts gL_law_X4_thrown rfl rfl rfl (by decide +kernel) ⟨(Nat.le_of_ble_eq_true rfl), (Nat.le_of_ble_eq_true rfl)⟩) hw hT hS (rcv hw hT 9 0 (by decide) rfl rfl) (As := []) (rest := []) rfl hl.1 rfl (Nat.le_of_ble_eq_true rfl) dL_law_342 ⟨le_z hcs.1, le_z hcs.2⟩ (fun H locs hw hS => ?_)
  refine W.widen (k := cells + 3) (n := slots + 18) (Nat.le_refl _) (Nat.le_refl _) ?_
  refine lv_iload hx hb dL_law_345 (lv_at hl 1 rfl) ?_
  refine lv_icmp_eq (tgt := 352) hx hb dL_law_347 (by decide) (fun _ => ?_) (fun q => absurd (e1.trans hk9.symm) q)
  refine lv_iload hx hb dL_law_352 (lv_at hl 1 rfl) ?_
  refine lv_if_ne (tgt := 369) hx hb dL_law_354 (by decide) (fun _ => ?_) (fun h0 => ?_)
  · skip
    refine lv_goto (tgt := 1510) hx hb dL_law_369 (by decide) ?_
    exact kk U H locs ls hRU hw hS (lv_sub hl [2, 3, 4, 5, 6, 7] rfl)
  have hn := cd_z (hk9.symm.trans h0)
  have f9 : ouS U 0 = (adMI T).toInt64 := by rw [e2 hn, (x_c hXU).2.1, hT9, en_n hn, ou_ou, va_up_self]
  refine lv_aload_n hx hb dL_law_357 rfl (lv_at hl 5 rfl) ?_
  refine lv_iconst (v := nI 0) hx hb dL_law_358 (by decide) ?_
  refine all hx hb hw hT 13 0 (by decide) (f := ouS U) rfl 0 (by decide) (by decide) dL_law_359 ?_
  refine lv_iload hx hb dL_law_360 (lv_at hl 0 rfl) ?_
  refine lv_i2l hx hb dL_law_362 rfl ?_
  refine lc_eq (x := ouS U 0) (y := (adMI T).toInt64) (tgt := 369) hx hb dL_law_363 dL_law_364 (by decide) (fun _ => ?_) (fun q => absurd f9 q)
  refine lv_goto (tgt := 1510) hx hb dL_law_369 (by decide) ?_
  exact kk U H locs ls hRU hw hS (lv_sub hl [2, 3, 4, 5, 6, 7] rfl)
set_option maxRecDepth 100000 in
set_option maxHeartbeats 1000000 in
theorem k_addRow {p : Program} {l : Launch} {e : Env} {s : State} {m : MethodId} {below : List Frame} {meth : Method} {c : Code} {b L : Nat} {xs : Nat → Int32} {G : Gm} (C : LC p l s m c b L xs G) {S : St} {H : Heap} {locs : List Loc} {ls : Array Slot} {cells slots i : Nat} {Q : State → Prop} (hR : Rel S S) (hw : wdM G S H s) (hS : va_S (g_A G) s.heap H locs) (hl : lv_has ls 8 (LV G b i)) (hi : i + 7 ≤ L) (hcs : cells + 3 ≤ room_1.cells ∧ slots + 18 ≤ room_1.slots)
    (kk : ∀ (S' : St) (H : Heap) (locs : List Loc) (ls : Array Slot), Rel S' S' → wdM G S' H s → va_S (g_A G) s.heap H locs → lv_has ls 8 (LV G b i) → W p l e room_1 s m #[Value.ref b] below meth c H locs (cells + 3) (slots + 18) Q (F0 m 1510 ls [])) : W p l e room_1 s m #[Value.ref b] below meth c H locs cells slots Q (F0 m 372 ls []) := by
  obtain ⟨hx, hb, hml, hown, hts, hX, hbl, hbA, hT, hN, hl0, hL⟩ := C
  have hl : lv_has ls 8 [(0, .ref b), (1, .ref (g_ad G 0 0)), (2, .ref (g_ad G 9 0)), (3, .ref (g_ad G 13 0)), (4, .ref (g_ad G 14 0)), (5, .int (nI i))] := hl
  obtain ⟨a1, ha1⟩ : ∃ z, z = xs (i + 1) := ⟨_, rfl⟩
  obtain ⟨a2, ha2⟩ : ∃ z, z = xs (i + 2) := ⟨_, rfl⟩
  obtain ⟨f2, hf2⟩ : ∃ z, z = FP.fmul (FP.i2f a2) 1040187392 := ⟨_, rfl⟩
  obtain ⟨a3, ha3⟩ : ∃ z, z = xs (i + 3) := ⟨_, rfl⟩
  obtain ⟨f3, hf3⟩ : ∃ z, z = FP.fmul (FP.i2f a3) 1040187392 := ⟨_, rfl⟩
  obtain ⟨a4, ha4⟩ : ∃ z, z = xs (i + 4) := ⟨_, rfl⟩
  obtain ⟨f4, hf4⟩ : ∃ z, z = FP.fmul (FP.i2f a4) 1040187392 := ⟨_, rfl⟩
  obtain ⟨a5, ha5⟩ : ∃ z, z = xs (i + 5) := ⟨_, rfl⟩
  obtain ⟨a6, ha6⟩ : ∃ z, z = xs (i + 6) := ⟨_, rfl⟩
  refine lv_aload_n hx hb dL_law_372 rfl (lv_at hl 1 rfl) ?_
  refine lv_aload_n hx hb dL_law_373 rfl (lv_at hl 0 rfl) ?_
  refine lv_iload hx hb dL_law_374 (lv_at hl 5 rfl) ?_
  refine lv_iconst (v := nI 1) hx hb dL_law_376 (by decide) ?_
  refine lv_iadd hx hb dL_law_377 ?_
  refine top_i (y := nI (i + 1)) (nI_add i 1) ?_
  refine sld hx hb hX hbl hbA hS (i + 1) (by omega) (by omega) (v := a1) ha1.symm dL_law_378 ?_
  refine lv_aload_n hx hb dL_law_379 rfl (lv_at hl 0 rfl) ?_
  refine lv_iload hx hb dL_law_380 (lv_at hl 5 rfl) ?_
  refine lv_iconst (v := nI 2) hx hb dL_law_382 (by decide) ?_
  refine lv_iadd hx hb dL_law_383 ?_
  refine top_i (y := nI (i + 2)) (nI_add i 2) ?_
  refine sld hx hb hX hbl hbA hS (i + 2) (by omega) (by omega) (v := a2) ha2.symm dL_law_384 ?_
  refine lv_i2f hx hb dL_law_385 ?_
  refine lv_ldcf (v := 1040187392) hx hb hown (hts _ law_cf) dL_law_386 ?_
  refine lv_fmul hx hb dL_law_388 (v_arg a2) ?_
  refine top_f (y := f2) hf2.symm ?_
  refine lv_aload_n hx hb dL_law_389 rfl (lv_at hl 0 rfl) ?_
  refine lv_iload hx hb dL_law_390 (lv_at hl 5 rfl) ?_
  refine lv_iconst (v := nI 3) hx hb dL_law_392 (by decide) ?_
  refine lv_iadd hx hb dL_law_393 ?_
  refine top_i (y := nI (i + 3)) (nI_add i 3) ?_
  refine sld hx hb hX hbl hbA hS (i + 3) (by omega) (by omega) (v := a3) ha3.symm dL_law_394 ?_
  refine lv_i2f hx hb dL_law_395 ?_
  refine lv_ldcf (v := 1040187392) hx hb hown (hts _ law_cf) dL_law_396 ?_
  refine lv_fmul hx hb dL_law_398 (v_arg a3) ?_
  refine top_f (y := f3) hf3.symm ?_
  refine lv_aload_n hx hb dL_law_399 rfl (lv_at hl 0 rfl) ?_
  refine lv_iload hx hb dL_law_400 (lv_at hl 5 rfl) ?_
  refine lv_iconst (v := nI 4) hx hb dL_law_402 (by decide) ?_
  refine lv_iadd hx hb dL_law_403 ?_
  refine top_i (y := nI (i + 4)) (nI_add i 4) ?_
  refine sld hx hb hX hbl hbA hS (i + 4) (by omega) (by omega) (v := a4) ha4.symm dL_law_404 ?_
  refine lv_i2f hx hb dL_law_405 ?_
  refine lv_ldcf (v := 1040187392) hx hb hown (hts _ law_cf) dL_law_406 ?_
  refine lv_fmul hx hb dL_law_408 (v_arg a4) ?_
  refine top_f (y := f4) hf4.symm ?_
  refine lv_aload_n hx hb dL_law_409 rfl (lv_at hl 0 rfl) ?_
  refine lv_iload hx hb dL_law_410 (lv_at hl 5 rfl) ?_
  refine lv_iconst (v := nI 5) hx hb dL_law_412 (by decide) ?_
  refine lv_iadd hx hb dL_law_413 ?_
  refine top_i (y := nI (i + 5)) (nI_add i 5) ?_
  refine sld hx hb hX hbl hbA hS (i + 5) (by omega) (by omega) (v := a5) ha5.symm dL_law_414 ?_
  refine lv_aload_n hx hb dL_law_415 rfl (lv_at hl 0 rfl) ?_
  refine lv_iload hx hb dL_law_416 (lv_at hl 5 rfl) ?_
  refine lv_bipush (v := nI 6) hx hb dL_law_418 (by decide) ?_
  refine lv_iadd hx hb dL_law_420 ?_
  refine top_i (y := nI (i + 6)) (nI_add i 6) ?_
  refine sld hx hb hX hbl hbA hS (i + 6) (by omega) (by omega) (v := a6) ha6.symm dL_law_421 ?_
  refine lv_aload_n hx hb dL_law_422 rfl (lv_at hl 3 rfl) ?_
  refine cLi ⟨hx, hb, hml, hown, hts⟩ (h_addRow l G S hl0 a1 f2 f3 f4 a5 a6 hR.1.2) (vx_cwSW 8 hts gL_law_L_addRow rfl rfl rfl (by decide +kernel) ⟨(Nat.le_of_ble_eq_true rfl), (Nat.le_of_ble_eq_true rfl)⟩) hw hT hN hS (As := [.ref (g_ad G 0 0), .int a1, .float f2, .float f3, .float f4, .int a5, .int a6, .ref (g_ad G 13 0)]) (rest := []) rfl hl.1 rfl (Nat.le_of_ble_eq_true rfl) dL_law_423 ⟨Nat.le_trans (show cells + _ ≤ cells + 3 from Nat.add_le_add_left (Nat.le_of_ble_eq_true rfl) _) hcs.1, Nat.le_trans (show slots + _ ≤ slots + 18 from Nat.add_le_add_left (Nat.le_of_ble_eq_true rfl) _) hcs.2⟩ (fun H locs hw hS => ?_)
  refine W.widen (k := cells + 3) (n := slots + 18) (Nat.add_le_add_left (Nat.le_of_ble_eq_true rfl) _) (Nat.add_le_add_left (Nat.le_of_ble_eq_true rfl) _) ?_
  obtain ⟨T, hT9⟩ : ∃ z, z = enS (arX S a1 f2 f3 f4) (arSX S a1 f2 f3 f4) (ouU (abT (kN a1) f2 f3 f4 a5 a6 (arM S a1 f2 f3 f4)) (va_up (ouS (abT (kN a1) f2 f3 f4 a5 a6 (arM S a1 f2 f3 f4))) 0 (((abD (kN a1) f2 f3 f4 a5 a6 (arM S a1 f2 f3 f4)).2.1).toInt64))) := ⟨_, rfl⟩
  rw [← hT9] at hw
  have hMT : MSt T = MSt S := by rw [hT9]; exact (M_en (M_arSX _ _ _ _ _) ((M_ou _ _).trans ((M_abT _ _ _ _ _ _ _).trans (M_arM _ _ _ _ _))))
  have hRT : Rel S T := hR.cls hMT
  have hCT : CSt T = CSt (enS (arX S a1 f2 f3 f4) (arSX S a1 f2 f3 f4) (abT (kN a1) f2 f3 f4 a5 a6 (arM S a1 f2 f3 f4))) := by rw [hT9]; exact C_en
  obtain ⟨e1, e2, e3⟩ := r_addRow hRT a1 f2 f3 f4 a5 a6
  obtain ⟨k9, hk9⟩ : ∃ z, z = cdX xA (arX S a1 f2 f3 f4) := ⟨_, rfl⟩
  refine top_i (y := k9) hk9.symm ?_
  refine lv_istore (lv' := [(6, .int k9), (0, .ref b), (1, .ref (g_ad G 0 0)), (2, .ref (g_ad G 9 0)), (3, .ref (g_ad G 13 0)), (4, .ref (g_ad G 14 0)), (5, .int (nI i))]) hx hb dL_law_426 hl (by decide) rfl (fun ls hl => ?_)
  refine lv_aload_n hx hb dL_law_428 rfl (lv_at hl 3 rfl) ?_
  refine lv_aload_n hx hb dL_law_429 rfl (lv_at hl 1 rfl) ?_
  refine lv_iload hx hb dL_law_430 (lv_at hl 6 rfl) ?_
  refine lv_iconst (v := nI 1) hx hb dL_law_432 (by decide) ?_
  refine lv_iadd hx hb dL_law_433 ?_
  refine top_i (y := nI (i + 1)) (nI_add i 1) ?_
  refine sld hx hb hX hbl hbA hS (i + 1) (by omega) (by omega) (v := a1) ha1.symm dL_law_434 ?_
  refine lv_aload_n hx hb dL_law_435 rfl (lv_at hl 1 rfl) ?_
  refine lv_iload hx hb dL_law_436 (lv_at hl 6 rfl) ?_
  refine lv_iconst (v := nI 2) hx hb dL_law_438 (by decide) ?_
  refine lv_iadd hx hb dL_law_439 ?_
  refine top_i (y := nI (i + 2)) (nI_add i 2) ?_
  refine sld hx hb hX hbl hbA hS (i + 2) (by omega) (by omega) (v := a2) ha2.symm dL_law_440 ?_
  refine lv_i2f hx hb dL_law_441 ?_
  refine lv_ldcf (v := 1040187392) hx hb hown (hts _ law_cf) dL_law_442 ?_
  refine lv_fmul hx hb dL_law_444 (v_arg a2) ?_
  refine top_f (y := f2) hf2.symm ?_
  refine lv_aload_n hx hb dL_law_445 rfl (lv_at hl 1 rfl) ?_
  refine lv_iload hx hb dL_law_446 (lv_at hl 6 rfl) ?_
  refine lv_iconst (v := nI 3) hx hb dL_law_448 (by decide) ?_
  refine lv_iadd hx hb dL_law_449 ?_
  refine top_i (y := nI (i + 3)) (nI_add i 3) ?_
  refine sld hx hb hX hbl hbA hS (i + 3) (by omega) (by omega) (v := a3) ha3.symm dL_law_450 ?_
  refine lv_i2f hx hb dL_law_451 ?_
  refine lv_ldcf (v := 1040187392) hx hb hown (hts _ law_cf) dL_law_452 ?_
  refine lv_fmul hx hb dL_law_454 (v_arg a3) ?_
  refine top_f (y := f3) hf3.symm ?_
  refine lv_aload_n hx hb dL_law_455 rfl (lv_at hl 1 rfl) ?_
  refine lv_iload hx hb dL_law_456 (lv_at hl 6 rfl) ?_
  refine lv_iconst (v := nI 4) hx hb dL_law_458 (by decide) ?_
  refine lv_iadd hx hb dL_law_459 ?_
  refine top_i (y := nI (i + 4)) (nI_add i 4) ?_
  refine sld hx hb hX hbl hbA hS (i + 4) (by omega) (by omega) (v := a4) ha4.symm dL_law_460 ?_
  refine lv_i2f hx hb dL_law_461 ?_
  refine lv_ldcf (v := 1040187392) hx hb hown (hts _ law_cf) dL_law_462 ?_
  refine lv_fmul hx hb dL_law_464 (v_arg a4) ?_
  refine top_f (y := f4) hf4.symm ?_
  refine lv_aload_n hx hb dL_law_465 rfl (lv_at hl 1 rfl) ?_
  refine lv_iload hx hb dL_law_466 (lv_at hl 6 rfl) ?_
  refine lv_iconst (v := nI 5) hx hb dL_law_468 (by decide) ?_
  refine lv_iadd hx hb dL_law_469 ?_
  refine top_i (y := nI (i + 5)) (nI_add i 5) ?_
  refine sld hx hb hX hbl hbA hS (i + 5) (by omega) (by omega) (v := a5) ha5.symm dL_law_470 ?_
  refine lv_aload_n hx hb dL_law_471 rfl (lv_at hl 1 rfl) ?_
  refine lv_iload hx hb dL_law_472 (lv_at hl 6 rfl) ?_
  refine lv_bipush (v := nI 6) hx hb dL_law_474 (by decide) ?_
  refine lv_iadd hx hb dL_law_476 ?_
  refine top_i (y := nI (i + 6)) (nI_add i 6) ?_
  refine sld hx hb hX hbl hbA hS (i + 6) (by omega) (by omega) (v := a6) ha6.symm dL_law_477 ?_
  refine cVi ⟨hx, hb, hml, hown, hts⟩ (m_addRow l G T hRT.gb a1 f2 f3 f4 a5 a6) (cwV 6 hts gL_law_X4_addRow rfl rfl rfl (by decide +kernel) ⟨(Nat.le_of_ble_eq_true rfl), (Nat.le_of_ble_eq_true rfl)⟩) hw hT hS (rcv hw hT 9 0 (by decide) rfl rfl) (As := [.int a1, .float f2, .float f3, .float f4, .int a5, .int a6]) (rest := []) rfl hl.1 rfl (Nat.le_of_ble_eq_true rfl) dL_law_478 ⟨le_z hcs.1, le_z hcs.2⟩ (fun H locs hw hS => ?_)
  refine W.widen (k := cells + 3) (n := slots + 18) (Nat.le_refl _) (Nat.le_refl _) ?_
  obtain ⟨U, hU9⟩ : ∃ z, z = arMS T a1 f2 f3 f4 a5 a6 := ⟨_, rfl⟩
  rw [← hU9] at hw e1 e3
  have hXU : XSt U = XSt T := by rw [hU9]; exact X_ar _ _ _ _ _ _ _
  have hRU : Rel U U := e3.law (S := S) hCT hXU
  refine lv_istore (lv' := [(7, .int (arMI T a1 f2 f3 f4 a5 a6)), (6, .int k9), (0, .ref b), (1, .ref (g_ad G 0 0)), (2, .ref (g_ad G 9 0)), (3, .ref (g_ad G 13 0)), (4, .ref (g_ad G 14 0)), (5, .int (nI i))]) hx hb dL_law_481 hl (by decide) rfl (fun ls hl => ?_)
  refine lv_aload_n hx hb dL_law_483 rfl (lv_at hl 4 rfl) ?_
  refine cVi ⟨hx, hb, hml, hown, hts⟩ (m_thrown l G U) (cwV 0 hts gL_law_X4_thrown rfl rfl rfl (by decide +kernel) ⟨(Nat.le_of_ble_eq_true rfl), (Nat.le_of_ble_eq_true rfl)⟩) hw hT hS (rcv hw hT 9 0 (by decide) rfl rfl) (As := []) (rest := []) rfl hl.1 rfl (Nat.le_of_ble_eq_true rfl) dL_law_484 ⟨le_z hcs.1, le_z hcs.2⟩ (fun H locs hw hS => ?_)
  refine W.widen (k := cells + 3) (n := slots + 18) (Nat.le_refl _) (Nat.le_refl _) ?_
  refine lv_iload hx hb dL_law_487 (lv_at hl 1 rfl) ?_
  refine lv_icmp_eq (tgt := 494) hx hb dL_law_489 (by decide) (fun _ => ?_) (fun q => absurd (e1.trans hk9.symm) q)
  refine lv_iload hx hb dL_law_494 (lv_at hl 1 rfl) ?_
  refine lv_if_ne (tgt := 511) hx hb dL_law_496 (by decide) (fun _ => ?_) (fun h0 => ?_)
  · skip
    refine lv_goto (tgt := 1510) hx hb dL_law_511 (by decide) ?_
    exact kk U H locs ls hRU hw hS (lv_sub hl [2, 3, 4, 5, 6, 7] rfl)
  have hn := cd_z (hk9.symm.trans h0)
  have f9 : ouS U 0 = (arMI T a1 f2 f3 f4 a5 a6).toInt64 := by rw [e2 hn, (x_c hXU).2.1, hT9, en_n hn, ou_ou, va_up_self]
  refine lv_aload_n hx hb dL_law_499 rfl (lv_at hl 5 rfl) ?_
  refine lv_iconst (v := nI 0) hx hb dL_law_500 (by decide) ?_
  refine all hx hb hw hT 13 0 (by decide) (f := ouS U) rfl 0 (by decide) (by decide) dL_law_501 ?_
  refine lv_iload hx hb dL_law_502 (lv_at hl 0 rfl) ?_
  refine lv_i2l hx hb dL_law_504 rfl ?_
  refine lc_eq (x := ouS U 0) (y := (arMI T a1 f2 f3 f4 a5 a6).toInt64) (tgt := 511) hx hb dL_law_505 dL_law_506 (by decide) (fun _ => ?_) (fun q => absurd f9 q)
  refine lv_goto (tgt := 1510) hx hb dL_law_511 (by decide) ?_
  exact kk U H locs ls hRU hw hS (lv_sub hl [2, 3, 4, 5, 6, 7] rfl)
set_option maxRecDepth 100000 in
set_option maxHeartbeats 1000000 in
theorem k_move {p : Program} {l : Launch} {e : Env} {s : State} {m : MethodId} {below : List Frame} {meth : Method} {c : Code} {b L : Nat} {xs : Nat → Int32} {G : Gm} (C : LC p l s m c b L xs G) {S : St} {H : Heap} {locs : List Loc} {ls : Array Slot} {cells slots i : Nat} {Q : State → Prop} (hR : Rel S S) (hw : wdM G S H s) (hS : va_S (g_A G) s.heap H locs) (hl : lv_has ls 8 (LV G b i)) (hi : i + 7 ≤ L) (hcs : cells + 3 ≤ room_1.cells ∧ slots + 18 ≤ room_1.slots)
    (kk : ∀ (S' : St) (H : Heap) (locs : List Loc) (ls : Array Slot), Rel S' S' → wdM G S' H s → va_S (g_A G) s.heap H locs → lv_has ls 8 (LV G b i) → W p l e room_1 s m #[Value.ref b] below meth c H locs (cells + 3) (slots + 18) Q (F0 m 1510 ls [])) : W p l e room_1 s m #[Value.ref b] below meth c H locs cells slots Q (F0 m 514 ls []) := by
  obtain ⟨hx, hb, hml, hown, hts, hX, hbl, hbA, hT, hN, hl0, hL⟩ := C
  have hl : lv_has ls 8 [(0, .ref b), (1, .ref (g_ad G 0 0)), (2, .ref (g_ad G 9 0)), (3, .ref (g_ad G 13 0)), (4, .ref (g_ad G 14 0)), (5, .int (nI i))] := hl
  obtain ⟨a1, ha1⟩ : ∃ z, z = xs (i + 1) := ⟨_, rfl⟩
  obtain ⟨a2, ha2⟩ : ∃ z, z = xs (i + 2) := ⟨_, rfl⟩
  obtain ⟨f2, hf2⟩ : ∃ z, z = FP.fmul (FP.i2f a2) 1040187392 := ⟨_, rfl⟩
  obtain ⟨a3, ha3⟩ : ∃ z, z = xs (i + 3) := ⟨_, rfl⟩
  obtain ⟨f3, hf3⟩ : ∃ z, z = FP.fmul (FP.i2f a3) 1040187392 := ⟨_, rfl⟩
  obtain ⟨a4, ha4⟩ : ∃ z, z = xs (i + 4) := ⟨_, rfl⟩
  obtain ⟨f4, hf4⟩ : ∃ z, z = FP.fmul (FP.i2f a4) 1040187392 := ⟨_, rfl⟩
  refine lv_aload_n hx hb dL_law_514 rfl (lv_at hl 1 rfl) ?_
  refine lv_aload_n hx hb dL_law_515 rfl (lv_at hl 0 rfl) ?_
  refine lv_iload hx hb dL_law_516 (lv_at hl 5 rfl) ?_
  refine lv_iconst (v := nI 1) hx hb dL_law_518 (by decide) ?_
  refine lv_iadd hx hb dL_law_519 ?_
  refine top_i (y := nI (i + 1)) (nI_add i 1) ?_
  refine sld hx hb hX hbl hbA hS (i + 1) (by omega) (by omega) (v := a1) ha1.symm dL_law_520 ?_
  refine lv_aload_n hx hb dL_law_521 rfl (lv_at hl 0 rfl) ?_
  refine lv_iload hx hb dL_law_522 (lv_at hl 5 rfl) ?_
  refine lv_iconst (v := nI 2) hx hb dL_law_524 (by decide) ?_
  refine lv_iadd hx hb dL_law_525 ?_
  refine top_i (y := nI (i + 2)) (nI_add i 2) ?_
  refine sld hx hb hX hbl hbA hS (i + 2) (by omega) (by omega) (v := a2) ha2.symm dL_law_526 ?_
  refine lv_i2f hx hb dL_law_527 ?_
  refine lv_ldcf (v := 1040187392) hx hb hown (hts _ law_cf) dL_law_528 ?_
  refine lv_fmul hx hb dL_law_530 (v_arg a2) ?_
  refine top_f (y := f2) hf2.symm ?_
  refine lv_aload_n hx hb dL_law_531 rfl (lv_at hl 0 rfl) ?_
  refine lv_iload hx hb dL_law_532 (lv_at hl 5 rfl) ?_
  refine lv_iconst (v := nI 3) hx hb dL_law_534 (by decide) ?_
  refine lv_iadd hx hb dL_law_535 ?_
  refine top_i (y := nI (i + 3)) (nI_add i 3) ?_
  refine sld hx hb hX hbl hbA hS (i + 3) (by omega) (by omega) (v := a3) ha3.symm dL_law_536 ?_
  refine lv_i2f hx hb dL_law_537 ?_
  refine lv_ldcf (v := 1040187392) hx hb hown (hts _ law_cf) dL_law_538 ?_
  refine lv_fmul hx hb dL_law_540 (v_arg a3) ?_
  refine top_f (y := f3) hf3.symm ?_
  refine lv_aload_n hx hb dL_law_541 rfl (lv_at hl 0 rfl) ?_
  refine lv_iload hx hb dL_law_542 (lv_at hl 5 rfl) ?_
  refine lv_iconst (v := nI 4) hx hb dL_law_544 (by decide) ?_
  refine lv_iadd hx hb dL_law_545 ?_
  refine top_i (y := nI (i + 4)) (nI_add i 4) ?_
  refine sld hx hb hX hbl hbA hS (i + 4) (by omega) (by omega) (v := a4) ha4.symm dL_law_546 ?_
  refine lv_i2f hx hb dL_law_547 ?_
  refine lv_ldcf (v := 1040187392) hx hb hown (hts _ law_cf) dL_law_548 ?_
  refine lv_fmul hx hb dL_law_550 (v_arg a4) ?_
  refine top_f (y := f4) hf4.symm ?_
  refine lv_aload_n hx hb dL_law_551 rfl (lv_at hl 3 rfl) ?_
  refine cLi ⟨hx, hb, hml, hown, hts⟩ (h_move l G S hl0 a1 f2 f3 f4 hR.1.2) (vx_cwSW 6 hts gL_law_L_move rfl rfl rfl (by decide +kernel) ⟨(Nat.le_of_ble_eq_true rfl), (Nat.le_of_ble_eq_true rfl)⟩) hw hT hN hS (As := [.ref (g_ad G 0 0), .int a1, .float f2, .float f3, .float f4, .ref (g_ad G 13 0)]) (rest := []) rfl hl.1 rfl (Nat.le_of_ble_eq_true rfl) dL_law_552 ⟨Nat.le_trans (show cells + _ ≤ cells + 3 from Nat.add_le_add_left (Nat.le_of_ble_eq_true rfl) _) hcs.1, Nat.le_trans (show slots + _ ≤ slots + 18 from Nat.add_le_add_left (Nat.le_of_ble_eq_true rfl) _) hcs.2⟩ (fun H locs hw hS => ?_)
  refine W.widen (k := cells + 3) (n := slots + 18) (Nat.add_le_add_left (Nat.le_of_ble_eq_true rfl) _) (Nat.add_le_add_left (Nat.le_of_ble_eq_true rfl) _) ?_
  obtain ⟨T, hT9⟩ : ∃ z, z = enS (orX (thereX S a1) (orX (padX S) (movX f2 f3 f4))) S (ouU (mtS S (kN a1) 0 f2 f3 f4) (va_up (ouS (mtS S (kN a1) 0 f2 f3 f4)) 0 (bL (!(mtB S (kN a1) 0))))) := ⟨_, rfl⟩
  rw [← hT9] at hw
  have hMT : MSt T = MSt S := by rw [hT9]; exact (M_en rfl ((M_ou _ _).trans (M_mt _ _ _ _ _ _)))
  have hRT : Rel S T := hR.cls hMT
  have hCT : CSt T = CSt (enS (orX (thereX S a1) (orX (padX S) (movX f2 f3 f4))) S (mtS S (kN a1) 0 f2 f3 f4)) := by rw [hT9]; exact C_en
  obtain ⟨e1, e2, e3⟩ := r_move hRT a1 f2 f3 f4
  obtain ⟨k9, hk9⟩ : ∃ z, z = cdX xI (orX (thereX S a1) (orX (padX S) (movX f2 f3 f4))) := ⟨_, rfl⟩
  refine top_i (y := k9) hk9.symm ?_
  refine lv_istore (lv' := [(6, .int k9), (0, .ref b), (1, .ref (g_ad G 0 0)), (2, .ref (g_ad G 9 0)), (3, .ref (g_ad G 13 0)), (4, .ref (g_ad G 14 0)), (5, .int (nI i))]) hx hb dL_law_555 hl (by decide) rfl (fun ls hl => ?_)
  refine lv_aload_n hx hb dL_law_557 rfl (lv_at hl 3 rfl) ?_
  refine lv_aload_n hx hb dL_law_558 rfl (lv_at hl 1 rfl) ?_
  refine lv_iload hx hb dL_law_559 (lv_at hl 6 rfl) ?_
  refine lv_iconst (v := nI 1) hx hb dL_law_561 (by decide) ?_
  refine lv_iadd hx hb dL_law_562 ?_
  refine top_i (y := nI (i + 1)) (nI_add i 1) ?_
  refine sld hx hb hX hbl hbA hS (i + 1) (by omega) (by omega) (v := a1) ha1.symm dL_law_563 ?_
  refine lv_aload_n hx hb dL_law_564 rfl (lv_at hl 1 rfl) ?_
  refine lv_iload hx hb dL_law_565 (lv_at hl 6 rfl) ?_
  refine lv_iconst (v := nI 2) hx hb dL_law_567 (by decide) ?_
  refine lv_iadd hx hb dL_law_568 ?_
  refine top_i (y := nI (i + 2)) (nI_add i 2) ?_
  refine sld hx hb hX hbl hbA hS (i + 2) (by omega) (by omega) (v := a2) ha2.symm dL_law_569 ?_
  refine lv_i2f hx hb dL_law_570 ?_
  refine lv_ldcf (v := 1040187392) hx hb hown (hts _ law_cf) dL_law_571 ?_
  refine lv_fmul hx hb dL_law_573 (v_arg a2) ?_
  refine top_f (y := f2) hf2.symm ?_
  refine lv_aload_n hx hb dL_law_574 rfl (lv_at hl 1 rfl) ?_
  refine lv_iload hx hb dL_law_575 (lv_at hl 6 rfl) ?_
  refine lv_iconst (v := nI 3) hx hb dL_law_577 (by decide) ?_
  refine lv_iadd hx hb dL_law_578 ?_
  refine top_i (y := nI (i + 3)) (nI_add i 3) ?_
  refine sld hx hb hX hbl hbA hS (i + 3) (by omega) (by omega) (v := a3) ha3.symm dL_law_579 ?_
  refine lv_i2f hx hb dL_law_580 ?_
  refine lv_ldcf (v := 1040187392) hx hb hown (hts _ law_cf) dL_law_581 ?_
  refine lv_fmul hx hb dL_law_583 (v_arg a3) ?_
  refine top_f (y := f3) hf3.symm ?_
  refine lv_aload_n hx hb dL_law_584 rfl (lv_at hl 1 rfl) ?_
  refine lv_iload hx hb dL_law_585 (lv_at hl 6 rfl) ?_
  refine lv_iconst (v := nI 4) hx hb dL_law_587 (by decide) ?_
  refine lv_iadd hx hb dL_law_588 ?_
  refine top_i (y := nI (i + 4)) (nI_add i 4) ?_
  refine sld hx hb hX hbl hbA hS (i + 4) (by omega) (by omega) (v := a4) ha4.symm dL_law_589 ?_
  refine lv_i2f hx hb dL_law_590 ?_
  refine lv_ldcf (v := 1040187392) hx hb hown (hts _ law_cf) dL_law_591 ?_
  refine lv_fmul hx hb dL_law_593 (v_arg a4) ?_
  refine top_f (y := f4) hf4.symm ?_
  refine cVi ⟨hx, hb, hml, hown, hts⟩ (m_move l G T hRT.gb a1 f2 f3 f4) (cwV 4 hts gL_law_X4_move rfl rfl rfl (by decide +kernel) ⟨(Nat.le_of_ble_eq_true rfl), (Nat.le_of_ble_eq_true rfl)⟩) hw hT hS (rcv hw hT 9 0 (by decide) rfl rfl) (As := [.int a1, .float f2, .float f3, .float f4]) (rest := []) rfl hl.1 rfl (Nat.le_of_ble_eq_true rfl) dL_law_594 ⟨le_z hcs.1, le_z hcs.2⟩ (fun H locs hw hS => ?_)
  refine W.widen (k := cells + 3) (n := slots + 18) (Nat.le_refl _) (Nat.le_refl _) ?_
  obtain ⟨U, hU9⟩ : ∃ z, z = mvMS T a1 f2 f3 f4 := ⟨_, rfl⟩
  rw [← hU9] at hw e1 e3
  have hXU : XSt U = XSt T := by rw [hU9]; exact X_mv _ _ _ _ _
  have hRU : Rel U U := e3.law (S := S) hCT hXU
  refine lv_istore (lv' := [(7, .int (bI (mvMB T a1 f2 f3 f4))), (6, .int k9), (0, .ref b), (1, .ref (g_ad G 0 0)), (2, .ref (g_ad G 9 0)), (3, .ref (g_ad G 13 0)), (4, .ref (g_ad G 14 0)), (5, .int (nI i))]) hx hb dL_law_597 hl (by decide) rfl (fun ls hl => ?_)
  refine lv_aload_n hx hb dL_law_599 rfl (lv_at hl 4 rfl) ?_
  refine cVi ⟨hx, hb, hml, hown, hts⟩ (m_thrown l G U) (cwV 0 hts gL_law_X4_thrown rfl rfl rfl (by decide +kernel) ⟨(Nat.le_of_ble_eq_true rfl), (Nat.le_of_ble_eq_true rfl)⟩) hw hT hS (rcv hw hT 9 0 (by decide) rfl rfl) (As := []) (rest := []) rfl hl.1 rfl (Nat.le_of_ble_eq_true rfl) dL_law_600 ⟨le_z hcs.1, le_z hcs.2⟩ (fun H locs hw hS => ?_)
  refine W.widen (k := cells + 3) (n := slots + 18) (Nat.le_refl _) (Nat.le_refl _) ?_
  refine lv_iload hx hb dL_law_603 (lv_at hl 1 rfl) ?_
  refine lv_icmp_eq (tgt := 610) hx hb dL_law_605 (by decide) (fun _ => ?_) (fun q => absurd (e1.trans hk9.symm) q)
  refine lv_iload hx hb dL_law_610 (lv_at hl 1 rfl) ?_
  refine lv_if_ne (tgt := 634) hx hb dL_law_612 (by decide) (fun _ => ?_) (fun h0 => ?_)
  · skip
    refine lv_goto (tgt := 1510) hx hb dL_law_634 (by decide) ?_
    exact kk U H locs ls hRU hw hS (lv_sub hl [2, 3, 4, 5, 6, 7] rfl)
  have hn := cd_z (hk9.symm.trans h0)
  have f9 : ouS U 0 = bL (mvMB T a1 f2 f3 f4) := by rw [e2 hn, (x_c hXU).2.1, hT9, en_n hn, ou_ou, va_up_self]
  refine lv_aload_n hx hb dL_law_615 rfl (lv_at hl 5 rfl) ?_
  refine lv_iconst (v := nI 0) hx hb dL_law_616 (by decide) ?_
  refine all hx hb hw hT 13 0 (by decide) (f := ouS U) rfl 0 (by decide) (by decide) dL_law_617 ?_
  refine lv_iload hx hb dL_law_618 (lv_at hl 0 rfl) ?_
  refine lv_if_eq (tgt := 627) hx hb dL_law_620 (by decide) (fun h5 => ?_) (fun h5 => ?_)
  · skip
    refine lv_lconst (v := 0) hx hb dL_law_627 (by decide) ?_
    refine lc_eq (x := ouS U 0) (y := 0) (tgt := 634) hx hb dL_law_628 dL_law_629 (by decide) (fun _ => ?_) (fun q => absurd (f9.trans (bL_0 h5)) q)
    refine lv_goto (tgt := 1510) hx hb dL_law_634 (by decide) ?_
    exact kk U H locs ls hRU hw hS (lv_sub hl [2, 3, 4, 5, 6, 7] rfl)
  · skip
    refine lv_lconst (v := 1) hx hb dL_law_623 (by decide) ?_
    refine lv_goto (tgt := 628) hx hb dL_law_624 (by decide) ?_
    refine lc_eq (x := ouS U 0) (y := 1) (tgt := 634) hx hb dL_law_628 dL_law_629 (by decide) (fun _ => ?_) (fun q => absurd (f9.trans (bL_1 h5)) q)
    refine lv_goto (tgt := 1510) hx hb dL_law_634 (by decide) ?_
    exact kk U H locs ls hRU hw hS (lv_sub hl [2, 3, 4, 5, 6, 7] rfl)
set_option maxRecDepth 100000 in
set_option maxHeartbeats 1000000 in
theorem k_shift {p : Program} {l : Launch} {e : Env} {s : State} {m : MethodId} {below : List Frame} {meth : Method} {c : Code} {b L : Nat} {xs : Nat → Int32} {G : Gm} (C : LC p l s m c b L xs G) {S : St} {H : Heap} {locs : List Loc} {ls : Array Slot} {cells slots i : Nat} {Q : State → Prop} (hR : Rel S S) (hw : wdM G S H s) (hS : va_S (g_A G) s.heap H locs) (hl : lv_has ls 8 (LV G b i)) (hi : i + 7 ≤ L) (hcs : cells + 3 ≤ room_1.cells ∧ slots + 18 ≤ room_1.slots)
    (kk : ∀ (S' : St) (H : Heap) (locs : List Loc) (ls : Array Slot), Rel S' S' → wdM G S' H s → va_S (g_A G) s.heap H locs → lv_has ls 8 (LV G b i) → W p l e room_1 s m #[Value.ref b] below meth c H locs (cells + 3) (slots + 18) Q (F0 m 1510 ls [])) : W p l e room_1 s m #[Value.ref b] below meth c H locs cells slots Q (F0 m 637 ls []) := by
  obtain ⟨hx, hb, hml, hown, hts, hX, hbl, hbA, hT, hN, hl0, hL⟩ := C
  have hl : lv_has ls 8 [(0, .ref b), (1, .ref (g_ad G 0 0)), (2, .ref (g_ad G 9 0)), (3, .ref (g_ad G 13 0)), (4, .ref (g_ad G 14 0)), (5, .int (nI i))] := hl
  obtain ⟨a1, ha1⟩ : ∃ z, z = xs (i + 1) := ⟨_, rfl⟩
  obtain ⟨a2, ha2⟩ : ∃ z, z = xs (i + 2) := ⟨_, rfl⟩
  obtain ⟨a3, ha3⟩ : ∃ z, z = xs (i + 3) := ⟨_, rfl⟩
  obtain ⟨f3, hf3⟩ : ∃ z, z = FP.fmul (FP.i2f a3) 1040187392 := ⟨_, rfl⟩
  obtain ⟨a4, ha4⟩ : ∃ z, z = xs (i + 4) := ⟨_, rfl⟩
  obtain ⟨f4, hf4⟩ : ∃ z, z = FP.fmul (FP.i2f a4) 1040187392 := ⟨_, rfl⟩
  obtain ⟨a5, ha5⟩ : ∃ z, z = xs (i + 5) := ⟨_, rfl⟩
  obtain ⟨f5, hf5⟩ : ∃ z, z = FP.fmul (FP.i2f a5) 1040187392 := ⟨_, rfl⟩
  refine lv_aload_n hx hb dL_law_637 rfl (lv_at hl 1 rfl) ?_
  refine lv_aload_n hx hb dL_law_638 rfl (lv_at hl 0 rfl) ?_
  refine lv_iload hx hb dL_law_639 (lv_at hl 5 rfl) ?_
  refine lv_iconst (v := nI 1) hx hb dL_law_641 (by decide) ?_
  refine lv_iadd hx hb dL_law_642 ?_
  refine top_i (y := nI (i + 1)) (nI_add i 1) ?_
  refine sld hx hb hX hbl hbA hS (i + 1) (by omega) (by omega) (v := a1) ha1.symm dL_law_643 ?_
  refine lv_aload_n hx hb dL_law_644 rfl (lv_at hl 0 rfl) ?_
  refine lv_iload hx hb dL_law_645 (lv_at hl 5 rfl) ?_
  refine lv_iconst (v := nI 2) hx hb dL_law_647 (by decide) ?_
  refine lv_iadd hx hb dL_law_648 ?_
  refine top_i (y := nI (i + 2)) (nI_add i 2) ?_
  refine sld hx hb hX hbl hbA hS (i + 2) (by omega) (by omega) (v := a2) ha2.symm dL_law_649 ?_
  refine lv_aload_n hx hb dL_law_650 rfl (lv_at hl 0 rfl) ?_
  refine lv_iload hx hb dL_law_651 (lv_at hl 5 rfl) ?_
  refine lv_iconst (v := nI 3) hx hb dL_law_653 (by decide) ?_
  refine lv_iadd hx hb dL_law_654 ?_
  refine top_i (y := nI (i + 3)) (nI_add i 3) ?_
  refine sld hx hb hX hbl hbA hS (i + 3) (by omega) (by omega) (v := a3) ha3.symm dL_law_655 ?_
  refine lv_i2f hx hb dL_law_656 ?_
  refine lv_ldcf (v := 1040187392) hx hb hown (hts _ law_cf) dL_law_657 ?_
  refine lv_fmul hx hb dL_law_659 (v_arg a3) ?_
  refine top_f (y := f3) hf3.symm ?_
  refine lv_aload_n hx hb dL_law_660 rfl (lv_at hl 0 rfl) ?_
  refine lv_iload hx hb dL_law_661 (lv_at hl 5 rfl) ?_
  refine lv_iconst (v := nI 4) hx hb dL_law_663 (by decide) ?_
  refine lv_iadd hx hb dL_law_664 ?_
  refine top_i (y := nI (i + 4)) (nI_add i 4) ?_
  refine sld hx hb hX hbl hbA hS (i + 4) (by omega) (by omega) (v := a4) ha4.symm dL_law_665 ?_
  refine lv_i2f hx hb dL_law_666 ?_
  refine lv_ldcf (v := 1040187392) hx hb hown (hts _ law_cf) dL_law_667 ?_
  refine lv_fmul hx hb dL_law_669 (v_arg a4) ?_
  refine top_f (y := f4) hf4.symm ?_
  refine lv_aload_n hx hb dL_law_670 rfl (lv_at hl 0 rfl) ?_
  refine lv_iload hx hb dL_law_671 (lv_at hl 5 rfl) ?_
  refine lv_iconst (v := nI 5) hx hb dL_law_673 (by decide) ?_
  refine lv_iadd hx hb dL_law_674 ?_
  refine top_i (y := nI (i + 5)) (nI_add i 5) ?_
  refine sld hx hb hX hbl hbA hS (i + 5) (by omega) (by omega) (v := a5) ha5.symm dL_law_675 ?_
  refine lv_i2f hx hb dL_law_676 ?_
  refine lv_ldcf (v := 1040187392) hx hb hown (hts _ law_cf) dL_law_677 ?_
  refine lv_fmul hx hb dL_law_679 (v_arg a5) ?_
  refine top_f (y := f5) hf5.symm ?_
  refine lv_aload_n hx hb dL_law_680 rfl (lv_at hl 3 rfl) ?_
  refine cLi ⟨hx, hb, hml, hown, hts⟩ (h_shift l G S hl0 a1 a2 f3 f4 f5 hR.tgS) (vx_cwSW 7 hts gL_law_L_shift rfl rfl rfl (by decide +kernel) ⟨(Nat.le_of_ble_eq_true rfl), (Nat.le_of_ble_eq_true rfl)⟩) hw hT hN hS (As := [.ref (g_ad G 0 0), .int a1, .int a2, .float f3, .float f4, .float f5, .ref (g_ad G 13 0)]) (rest := []) rfl hl.1 rfl (Nat.le_of_ble_eq_true rfl) dL_law_681 ⟨Nat.le_trans (show cells + _ ≤ cells + 3 from Nat.add_le_add_left (Nat.le_of_ble_eq_true rfl) _) hcs.1, Nat.le_trans (show slots + _ ≤ slots + 18 from Nat.add_le_add_left (Nat.le_of_ble_eq_true rfl) _) hcs.2⟩ (fun H locs hw hS => ?_)
  refine W.widen (k := cells + 3) (n := slots + 18) (Nat.add_le_add_left (Nat.le_of_ble_eq_true rfl) _) (Nat.add_le_add_left (Nat.le_of_ble_eq_true rfl) _) ?_
  obtain ⟨T, hT9⟩ : ∃ z, z = enS (shE a1 a2 f3 f4 f5) S (ouU ((shD S a1 a2 f3 f4 f5).1) (va_up (ouS ((shD S a1 a2 f3 f4 f5).1)) 0 (((shD S a1 a2 f3 f4 f5).2).toInt64))) := ⟨_, rfl⟩
  rw [← hT9] at hw
  have hMT : MSt T = MSt S := by rw [hT9]; exact (M_en rfl ((M_ou _ _).trans (M_shD _ _ _ _ _ _)))
  have hRT : Rel S T := hR.cls hMT
  have hCT : CSt T = CSt (enS (shE a1 a2 f3 f4 f5) S ((shD S a1 a2 f3 f4 f5).1)) := by rw [hT9]; exact C_en
  obtain ⟨e1, e2, e3⟩ := r_shift hRT a1 a2 f3 f4 f5
  obtain ⟨k9, hk9⟩ : ∃ z, z = cdX xI (shE a1 a2 f3 f4 f5) := ⟨_, rfl⟩
  refine top_i (y := k9) hk9.symm ?_
  refine lv_istore (lv' := [(6, .int k9), (0, .ref b), (1, .ref (g_ad G 0 0)), (2, .ref (g_ad G 9 0)), (3, .ref (g_ad G 13 0)), (4, .ref (g_ad G 14 0)), (5, .int (nI i))]) hx hb dL_law_684 hl (by decide) rfl (fun ls hl => ?_)
  refine lv_aload_n hx hb dL_law_686 rfl (lv_at hl 3 rfl) ?_
  refine lv_aload_n hx hb dL_law_687 rfl (lv_at hl 1 rfl) ?_
  refine lv_iload hx hb dL_law_688 (lv_at hl 6 rfl) ?_
  refine lv_iconst (v := nI 1) hx hb dL_law_690 (by decide) ?_
  refine lv_iadd hx hb dL_law_691 ?_
  refine top_i (y := nI (i + 1)) (nI_add i 1) ?_
  refine sld hx hb hX hbl hbA hS (i + 1) (by omega) (by omega) (v := a1) ha1.symm dL_law_692 ?_
  refine lv_aload_n hx hb dL_law_693 rfl (lv_at hl 1 rfl) ?_
  refine lv_iload hx hb dL_law_694 (lv_at hl 6 rfl) ?_
  refine lv_iconst (v := nI 2) hx hb dL_law_696 (by decide) ?_
  refine lv_iadd hx hb dL_law_697 ?_
  refine top_i (y := nI (i + 2)) (nI_add i 2) ?_
  refine sld hx hb hX hbl hbA hS (i + 2) (by omega) (by omega) (v := a2) ha2.symm dL_law_698 ?_
  refine lv_aload_n hx hb dL_law_699 rfl (lv_at hl 1 rfl) ?_
  refine lv_iload hx hb dL_law_700 (lv_at hl 6 rfl) ?_
  refine lv_iconst (v := nI 3) hx hb dL_law_702 (by decide) ?_
  refine lv_iadd hx hb dL_law_703 ?_
  refine top_i (y := nI (i + 3)) (nI_add i 3) ?_
  refine sld hx hb hX hbl hbA hS (i + 3) (by omega) (by omega) (v := a3) ha3.symm dL_law_704 ?_
  refine lv_i2f hx hb dL_law_705 ?_
  refine lv_ldcf (v := 1040187392) hx hb hown (hts _ law_cf) dL_law_706 ?_
  refine lv_fmul hx hb dL_law_708 (v_arg a3) ?_
  refine top_f (y := f3) hf3.symm ?_
  refine lv_aload_n hx hb dL_law_709 rfl (lv_at hl 1 rfl) ?_
  refine lv_iload hx hb dL_law_710 (lv_at hl 6 rfl) ?_
  refine lv_iconst (v := nI 4) hx hb dL_law_712 (by decide) ?_
  refine lv_iadd hx hb dL_law_713 ?_
  refine top_i (y := nI (i + 4)) (nI_add i 4) ?_
  refine sld hx hb hX hbl hbA hS (i + 4) (by omega) (by omega) (v := a4) ha4.symm dL_law_714 ?_
  refine lv_i2f hx hb dL_law_715 ?_
  refine lv_ldcf (v := 1040187392) hx hb hown (hts _ law_cf) dL_law_716 ?_
  refine lv_fmul hx hb dL_law_718 (v_arg a4) ?_
  refine top_f (y := f4) hf4.symm ?_
  refine lv_aload_n hx hb dL_law_719 rfl (lv_at hl 1 rfl) ?_
  refine lv_iload hx hb dL_law_720 (lv_at hl 6 rfl) ?_
  refine lv_iconst (v := nI 5) hx hb dL_law_722 (by decide) ?_
  refine lv_iadd hx hb dL_law_723 ?_
  refine top_i (y := nI (i + 5)) (nI_add i 5) ?_
  refine sld hx hb hX hbl hbA hS (i + 5) (by omega) (by omega) (v := a5) ha5.symm dL_law_724 ?_
  refine lv_i2f hx hb dL_law_725 ?_
  refine lv_ldcf (v := 1040187392) hx hb hown (hts _ law_cf) dL_law_726 ?_
  refine lv_fmul hx hb dL_law_728 (v_arg a5) ?_
  refine top_f (y := f5) hf5.symm ?_
  refine cVi ⟨hx, hb, hml, hown, hts⟩ (m_shift l G T hRT.tg a1 a2 f3 f4 f5) (cwV 5 hts gL_law_X4_shift rfl rfl rfl (by decide +kernel) ⟨(Nat.le_of_ble_eq_true rfl), (Nat.le_of_ble_eq_true rfl)⟩) hw hT hS (rcv hw hT 9 0 (by decide) rfl rfl) (As := [.int a1, .int a2, .float f3, .float f4, .float f5]) (rest := []) rfl hl.1 rfl (Nat.le_of_ble_eq_true rfl) dL_law_729 ⟨le_z hcs.1, le_z hcs.2⟩ (fun H locs hw hS => ?_)
  refine W.widen (k := cells + 3) (n := slots + 18) (Nat.le_refl _) (Nat.le_refl _) ?_
  obtain ⟨U, hU9⟩ : ∃ z, z = shMS T a1 a2 f3 f4 f5 := ⟨_, rfl⟩
  rw [← hU9] at hw e1 e3
  have hXU : XSt U = XSt T := by rw [hU9]; exact X_sh _ _ _ _ _ _
  have hRU : Rel U U := e3.law (S := S) hCT hXU
  refine lv_istore (lv' := [(7, .int (shMI T a1 a2 f3 f4 f5)), (6, .int k9), (0, .ref b), (1, .ref (g_ad G 0 0)), (2, .ref (g_ad G 9 0)), (3, .ref (g_ad G 13 0)), (4, .ref (g_ad G 14 0)), (5, .int (nI i))]) hx hb dL_law_732 hl (by decide) rfl (fun ls hl => ?_)
  refine lv_aload_n hx hb dL_law_734 rfl (lv_at hl 4 rfl) ?_
  refine cVi ⟨hx, hb, hml, hown, hts⟩ (m_thrown l G U) (cwV 0 hts gL_law_X4_thrown rfl rfl rfl (by decide +kernel) ⟨(Nat.le_of_ble_eq_true rfl), (Nat.le_of_ble_eq_true rfl)⟩) hw hT hS (rcv hw hT 9 0 (by decide) rfl rfl) (As := []) (rest := []) rfl hl.1 rfl (Nat.le_of_ble_eq_true rfl) dL_law_735 ⟨le_z hcs.1, le_z hcs.2⟩ (fun H locs hw hS => ?_)
  refine W.widen (k := cells + 3) (n := slots + 18) (Nat.le_refl _) (Nat.le_refl _) ?_
  refine lv_iload hx hb dL_law_738 (lv_at hl 1 rfl) ?_
  refine lv_icmp_eq (tgt := 745) hx hb dL_law_740 (by decide) (fun _ => ?_) (fun q => absurd (e1.trans hk9.symm) q)
  refine lv_iload hx hb dL_law_745 (lv_at hl 1 rfl) ?_
  refine lv_if_ne (tgt := 762) hx hb dL_law_747 (by decide) (fun _ => ?_) (fun h0 => ?_)
  · skip
    refine lv_goto (tgt := 1510) hx hb dL_law_762 (by decide) ?_
    exact kk U H locs ls hRU hw hS (lv_sub hl [2, 3, 4, 5, 6, 7] rfl)
  have hn := cd_z (hk9.symm.trans h0)
  have f9 : ouS U 0 = (shMI T a1 a2 f3 f4 f5).toInt64 := by rw [e2 hn, (x_c hXU).2.1, hT9, en_n hn, ou_ou, va_up_self]
  refine lv_aload_n hx hb dL_law_750 rfl (lv_at hl 5 rfl) ?_
  refine lv_iconst (v := nI 0) hx hb dL_law_751 (by decide) ?_
  refine all hx hb hw hT 13 0 (by decide) (f := ouS U) rfl 0 (by decide) (by decide) dL_law_752 ?_
  refine lv_iload hx hb dL_law_753 (lv_at hl 0 rfl) ?_
  refine lv_i2l hx hb dL_law_755 rfl ?_
  refine lc_eq (x := ouS U 0) (y := (shMI T a1 a2 f3 f4 f5).toInt64) (tgt := 762) hx hb dL_law_756 dL_law_757 (by decide) (fun _ => ?_) (fun q => absurd f9 q)
  refine lv_goto (tgt := 1510) hx hb dL_law_762 (by decide) ?_
  exact kk U H locs ls hRU hw hS (lv_sub hl [2, 3, 4, 5, 6, 7] rfl)
set_option maxRecDepth 100000 in
set_option maxHeartbeats 1000000 in
theorem k_filter {p : Program} {l : Launch} {e : Env} {s : State} {m : MethodId} {below : List Frame} {meth : Method} {c : Code} {b L : Nat} {xs : Nat → Int32} {G : Gm} (C : LC p l s m c b L xs G) {S : St} {H : Heap} {locs : List Loc} {ls : Array Slot} {cells slots i : Nat} {Q : State → Prop} (hR : Rel S S) (hw : wdM G S H s) (hS : va_S (g_A G) s.heap H locs) (hl : lv_has ls 8 (LV G b i)) (hi : i + 7 ≤ L) (hcs : cells + 3 ≤ room_1.cells ∧ slots + 18 ≤ room_1.slots)
    (kk : ∀ (S' : St) (H : Heap) (locs : List Loc) (ls : Array Slot), Rel S' S' → wdM G S' H s → va_S (g_A G) s.heap H locs → lv_has ls 8 (LV G b i) → W p l e room_1 s m #[Value.ref b] below meth c H locs (cells + 3) (slots + 18) Q (F0 m 1510 ls [])) : W p l e room_1 s m #[Value.ref b] below meth c H locs cells slots Q (F0 m 765 ls []) := by
  obtain ⟨hx, hb, hml, hown, hts, hX, hbl, hbA, hT, hN, hl0, hL⟩ := C
  have hl : lv_has ls 8 [(0, .ref b), (1, .ref (g_ad G 0 0)), (2, .ref (g_ad G 9 0)), (3, .ref (g_ad G 13 0)), (4, .ref (g_ad G 14 0)), (5, .int (nI i))] := hl
  obtain ⟨a1, ha1⟩ : ∃ z, z = xs (i + 1) := ⟨_, rfl⟩
  obtain ⟨a2, ha2⟩ : ∃ z, z = xs (i + 2) := ⟨_, rfl⟩
  obtain ⟨a3, ha3⟩ : ∃ z, z = xs (i + 3) := ⟨_, rfl⟩
  refine lv_aload_n hx hb dL_law_765 rfl (lv_at hl 1 rfl) ?_
  refine lv_aload_n hx hb dL_law_766 rfl (lv_at hl 0 rfl) ?_
  refine lv_iload hx hb dL_law_767 (lv_at hl 5 rfl) ?_
  refine lv_iconst (v := nI 1) hx hb dL_law_769 (by decide) ?_
  refine lv_iadd hx hb dL_law_770 ?_
  refine top_i (y := nI (i + 1)) (nI_add i 1) ?_
  refine sld hx hb hX hbl hbA hS (i + 1) (by omega) (by omega) (v := a1) ha1.symm dL_law_771 ?_
  refine lv_aload_n hx hb dL_law_772 rfl (lv_at hl 0 rfl) ?_
  refine lv_iload hx hb dL_law_773 (lv_at hl 5 rfl) ?_
  refine lv_iconst (v := nI 2) hx hb dL_law_775 (by decide) ?_
  refine lv_iadd hx hb dL_law_776 ?_
  refine top_i (y := nI (i + 2)) (nI_add i 2) ?_
  refine sld hx hb hX hbl hbA hS (i + 2) (by omega) (by omega) (v := a2) ha2.symm dL_law_777 ?_
  refine lv_aload_n hx hb dL_law_778 rfl (lv_at hl 0 rfl) ?_
  refine lv_iload hx hb dL_law_779 (lv_at hl 5 rfl) ?_
  refine lv_iconst (v := nI 3) hx hb dL_law_781 (by decide) ?_
  refine lv_iadd hx hb dL_law_782 ?_
  refine top_i (y := nI (i + 3)) (nI_add i 3) ?_
  refine sld hx hb hX hbl hbA hS (i + 3) (by omega) (by omega) (v := a3) ha3.symm dL_law_783 ?_
  refine cLi ⟨hx, hb, hml, hown, hts⟩ (h_filter l G S hl0 a1 a2 a3 ) (vx_cwSW 4 hts gL_law_L_filter rfl rfl rfl (by decide +kernel) ⟨(Nat.le_of_ble_eq_true rfl), (Nat.le_of_ble_eq_true rfl)⟩) hw hT hN hS (As := [.ref (g_ad G 0 0), .int a1, .int a2, .int a3]) (rest := []) rfl hl.1 rfl (Nat.le_of_ble_eq_true rfl) dL_law_784 ⟨Nat.le_trans (show cells + _ ≤ cells + 3 from Nat.add_le_add_left (Nat.le_of_ble_eq_true rfl) _) hcs.1, Nat.le_trans (show slots + _ ≤ slots + 18 from Nat.add_le_add_left (Nat.le_of_ble_eq_true rfl) _) hcs.2⟩ (fun H locs hw hS => ?_)
  refine W.widen (k := cells + 3) (n := slots + 18) (Nat.add_le_add_left (Nat.le_of_ble_eq_true rfl) _) (Nat.add_le_add_left (Nat.le_of_ble_eq_true rfl) _) ?_
  obtain ⟨T, hT9⟩ : ∃ z, z = enS (thereX S a1) S (flS S (kN a1) a2 a3) := ⟨_, rfl⟩
  rw [← hT9] at hw
  have hMT : MSt T = MSt S := by rw [hT9]; exact (M_en rfl (M_fl _ _ _ _))
  have hRT : Rel S T := hR.cls hMT
  have hCT : CSt T = CSt (enS (thereX S a1) S (flS S (kN a1) a2 a3)) := by rw [hT9]
  obtain ⟨e1, e3⟩ := r_filter hRT a1 a2 a3
  obtain ⟨k9, hk9⟩ : ∃ z, z = cdX xI (thereX S a1) := ⟨_, rfl⟩
  refine top_i (y := k9) hk9.symm ?_
  refine lv_istore (lv' := [(6, .int k9), (0, .ref b), (1, .ref (g_ad G 0 0)), (2, .ref (g_ad G 9 0)), (3, .ref (g_ad G 13 0)), (4, .ref (g_ad G 14 0)), (5, .int (nI i))]) hx hb dL_law_787 hl (by decide) rfl (fun ls hl => ?_)
  refine lv_aload_n hx hb dL_law_789 rfl (lv_at hl 3 rfl) ?_
  refine lv_aload_n hx hb dL_law_790 rfl (lv_at hl 1 rfl) ?_
  refine lv_iload hx hb dL_law_791 (lv_at hl 6 rfl) ?_
  refine lv_iconst (v := nI 1) hx hb dL_law_793 (by decide) ?_
  refine lv_iadd hx hb dL_law_794 ?_
  refine top_i (y := nI (i + 1)) (nI_add i 1) ?_
  refine sld hx hb hX hbl hbA hS (i + 1) (by omega) (by omega) (v := a1) ha1.symm dL_law_795 ?_
  refine lv_aload_n hx hb dL_law_796 rfl (lv_at hl 1 rfl) ?_
  refine lv_iload hx hb dL_law_797 (lv_at hl 6 rfl) ?_
  refine lv_iconst (v := nI 2) hx hb dL_law_799 (by decide) ?_
  refine lv_iadd hx hb dL_law_800 ?_
  refine top_i (y := nI (i + 2)) (nI_add i 2) ?_
  refine sld hx hb hX hbl hbA hS (i + 2) (by omega) (by omega) (v := a2) ha2.symm dL_law_801 ?_
  refine lv_aload_n hx hb dL_law_802 rfl (lv_at hl 1 rfl) ?_
  refine lv_iload hx hb dL_law_803 (lv_at hl 6 rfl) ?_
  refine lv_iconst (v := nI 3) hx hb dL_law_805 (by decide) ?_
  refine lv_iadd hx hb dL_law_806 ?_
  refine top_i (y := nI (i + 3)) (nI_add i 3) ?_
  refine sld hx hb hX hbl hbA hS (i + 3) (by omega) (by omega) (v := a3) ha3.symm dL_law_807 ?_
  refine cVv ⟨hx, hb, hml, hown, hts⟩ (m_filter l G T a1 a2 a3) (cwV 3 hts gL_law_X4_filter rfl rfl rfl (by decide +kernel) ⟨(Nat.le_of_ble_eq_true rfl), (Nat.le_of_ble_eq_true rfl)⟩) hw hT hS (rcv hw hT 9 0 (by decide) rfl rfl) (As := [.int a1, .int a2, .int a3]) (rest := []) rfl hl.1 rfl (Nat.le_of_ble_eq_true rfl) dL_law_808 ⟨le_z hcs.1, le_z hcs.2⟩ (fun H locs hw hS => ?_)
  refine W.widen (k := cells + 3) (n := slots + 18) (Nat.le_refl _) (Nat.le_refl _) ?_
  obtain ⟨U, hU9⟩ : ∃ z, z = fiMS T a1 a2 a3 := ⟨_, rfl⟩
  rw [← hU9] at hw e1 e3
  have hXU : XSt U = XSt T := by rw [hU9]; exact X_fi _ _ _ _
  have hRU : Rel U U := e3.law (S := S) hCT hXU
  refine lv_aload_n hx hb dL_law_811 rfl (lv_at hl 3 rfl) ?_
  refine cVi ⟨hx, hb, hml, hown, hts⟩ (m_thrown l G U) (cwV 0 hts gL_law_X4_thrown rfl rfl rfl (by decide +kernel) ⟨(Nat.le_of_ble_eq_true rfl), (Nat.le_of_ble_eq_true rfl)⟩) hw hT hS (rcv hw hT 9 0 (by decide) rfl rfl) (As := []) (rest := []) rfl hl.1 rfl (Nat.le_of_ble_eq_true rfl) dL_law_812 ⟨le_z hcs.1, le_z hcs.2⟩ (fun H locs hw hS => ?_)
  refine W.widen (k := cells + 3) (n := slots + 18) (Nat.le_refl _) (Nat.le_refl _) ?_
  refine lv_iload hx hb dL_law_815 (lv_at hl 0 rfl) ?_
  refine lv_icmp_eq (tgt := 822) hx hb dL_law_817 (by decide) (fun _ => ?_) (fun q => absurd (e1.trans hk9.symm) q)
  refine lv_goto (tgt := 1510) hx hb dL_law_822 (by decide) ?_
  exact kk U H locs ls hRU hw hS (lv_sub hl [1, 2, 3, 4, 5, 6] rfl)
set_option maxRecDepth 100000 in
set_option maxHeartbeats 1000000 in
theorem k_remove {p : Program} {l : Launch} {e : Env} {s : State} {m : MethodId} {below : List Frame} {meth : Method} {c : Code} {b L : Nat} {xs : Nat → Int32} {G : Gm} (C : LC p l s m c b L xs G) {S : St} {H : Heap} {locs : List Loc} {ls : Array Slot} {cells slots i : Nat} {Q : State → Prop} (hR : Rel S S) (hw : wdM G S H s) (hS : va_S (g_A G) s.heap H locs) (hl : lv_has ls 8 (LV G b i)) (hi : i + 7 ≤ L) (hcs : cells + 3 ≤ room_1.cells ∧ slots + 18 ≤ room_1.slots)
    (kk : ∀ (S' : St) (H : Heap) (locs : List Loc) (ls : Array Slot), Rel S' S' → wdM G S' H s → va_S (g_A G) s.heap H locs → lv_has ls 8 (LV G b i) → W p l e room_1 s m #[Value.ref b] below meth c H locs (cells + 3) (slots + 18) Q (F0 m 1510 ls [])) : W p l e room_1 s m #[Value.ref b] below meth c H locs cells slots Q (F0 m 825 ls []) := by
  obtain ⟨hx, hb, hml, hown, hts, hX, hbl, hbA, hT, hN, hl0, hL⟩ := C
  have hl : lv_has ls 8 [(0, .ref b), (1, .ref (g_ad G 0 0)), (2, .ref (g_ad G 9 0)), (3, .ref (g_ad G 13 0)), (4, .ref (g_ad G 14 0)), (5, .int (nI i))] := hl
  obtain ⟨a1, ha1⟩ : ∃ z, z = xs (i + 1) := ⟨_, rfl⟩
  refine lv_aload_n hx hb dL_law_825 rfl (lv_at hl 1 rfl) ?_
  refine lv_aload_n hx hb dL_law_826 rfl (lv_at hl 0 rfl) ?_
  refine lv_iload hx hb dL_law_827 (lv_at hl 5 rfl) ?_
  refine lv_iconst (v := nI 1) hx hb dL_law_829 (by decide) ?_
  refine lv_iadd hx hb dL_law_830 ?_
  refine top_i (y := nI (i + 1)) (nI_add i 1) ?_
  refine sld hx hb hX hbl hbA hS (i + 1) (by omega) (by omega) (v := a1) ha1.symm dL_law_831 ?_
  refine lv_aload_n hx hb dL_law_832 rfl (lv_at hl 3 rfl) ?_
  refine cLi ⟨hx, hb, hml, hown, hts⟩ (h_remove l G S hl0 a1 hR.ip4.1 hR.ip4.2) (vx_cwSW 3 hts gL_law_L_remove rfl rfl rfl (by decide +kernel) ⟨(Nat.le_of_ble_eq_true rfl), (Nat.le_of_ble_eq_true rfl)⟩) hw hT hN hS (As := [.ref (g_ad G 0 0), .int a1, .ref (g_ad G 13 0)]) (rest := []) rfl hl.1 rfl (Nat.le_of_ble_eq_true rfl) dL_law_833 ⟨Nat.le_trans (show cells + _ ≤ cells + 3 from Nat.add_le_add_left (Nat.le_of_ble_eq_true rfl) _) hcs.1, Nat.le_trans (show slots + _ ≤ slots + 18 from Nat.add_le_add_left (Nat.le_of_ble_eq_true rfl) _) hcs.2⟩ (fun H locs hw hS => ?_)
  refine W.widen (k := cells + 3) (n := slots + 18) (Nat.add_le_add_left (Nat.le_of_ble_eq_true rfl) _) (Nat.add_le_add_left (Nat.le_of_ble_eq_true rfl) _) ?_
  obtain ⟨T, hT9⟩ : ∃ z, z = enS (thereX S a1) S (ouU (rmT S (kN a1)) (va_up (ouS (rmT S (kN a1))) 0 ((nI (rmC S (kN a1) 512)).toInt64))) := ⟨_, rfl⟩
  rw [← hT9] at hw
  have hMT : MSt T = MSt S := by rw [hT9]; exact (M_en rfl ((M_ou _ _).trans (M_rmT _ _)))
  have hRT : Rel S T := hR.cls hMT
  have hCT : CSt T = CSt (enS (thereX S a1) S (rmT S (kN a1))) := by rw [hT9]; exact C_en
  obtain ⟨e1, e2, e3⟩ := r_remove hRT a1
  obtain ⟨k9, hk9⟩ : ∃ z, z = cdX xI (thereX S a1) := ⟨_, rfl⟩
  refine top_i (y := k9) hk9.symm ?_
  refine lv_istore (lv' := [(6, .int k9), (0, .ref b), (1, .ref (g_ad G 0 0)), (2, .ref (g_ad G 9 0)), (3, .ref (g_ad G 13 0)), (4, .ref (g_ad G 14 0)), (5, .int (nI i))]) hx hb dL_law_836 hl (by decide) rfl (fun ls hl => ?_)
  refine lv_aload_n hx hb dL_law_838 rfl (lv_at hl 3 rfl) ?_
  refine lv_aload_n hx hb dL_law_839 rfl (lv_at hl 1 rfl) ?_
  refine lv_iload hx hb dL_law_840 (lv_at hl 6 rfl) ?_
  refine lv_iconst (v := nI 1) hx hb dL_law_842 (by decide) ?_
  refine lv_iadd hx hb dL_law_843 ?_
  refine top_i (y := nI (i + 1)) (nI_add i 1) ?_
  refine sld hx hb hX hbl hbA hS (i + 1) (by omega) (by omega) (v := a1) ha1.symm dL_law_844 ?_
  refine cVi ⟨hx, hb, hml, hown, hts⟩ (m_remove l G T a1) (cwV 1 hts gL_law_X4_remove rfl rfl rfl (by decide +kernel) ⟨(Nat.le_of_ble_eq_true rfl), (Nat.le_of_ble_eq_true rfl)⟩) hw hT hS (rcv hw hT 9 0 (by decide) rfl rfl) (As := [.int a1]) (rest := []) rfl hl.1 rfl (Nat.le_of_ble_eq_true rfl) dL_law_845 ⟨le_z hcs.1, le_z hcs.2⟩ (fun H locs hw hS => ?_)
  refine W.widen (k := cells + 3) (n := slots + 18) (Nat.le_refl _) (Nat.le_refl _) ?_
  obtain ⟨U, hU9⟩ : ∃ z, z = rmMS T a1 := ⟨_, rfl⟩
  rw [← hU9] at hw e1 e3
  have hXU : XSt U = XSt T := by rw [hU9]; exact X_rm _ _
  have hRU : Rel U U := e3.law (S := S) hCT hXU
  refine lv_istore (lv' := [(7, .int (rmMI T a1)), (6, .int k9), (0, .ref b), (1, .ref (g_ad G 0 0)), (2, .ref (g_ad G 9 0)), (3, .ref (g_ad G 13 0)), (4, .ref (g_ad G 14 0)), (5, .int (nI i))]) hx hb dL_law_848 hl (by decide) rfl (fun ls hl => ?_)
  refine lv_aload_n hx hb dL_law_850 rfl (lv_at hl 4 rfl) ?_
  refine cVi ⟨hx, hb, hml, hown, hts⟩ (m_thrown l G U) (cwV 0 hts gL_law_X4_thrown rfl rfl rfl (by decide +kernel) ⟨(Nat.le_of_ble_eq_true rfl), (Nat.le_of_ble_eq_true rfl)⟩) hw hT hS (rcv hw hT 9 0 (by decide) rfl rfl) (As := []) (rest := []) rfl hl.1 rfl (Nat.le_of_ble_eq_true rfl) dL_law_851 ⟨le_z hcs.1, le_z hcs.2⟩ (fun H locs hw hS => ?_)
  refine W.widen (k := cells + 3) (n := slots + 18) (Nat.le_refl _) (Nat.le_refl _) ?_
  refine lv_iload hx hb dL_law_854 (lv_at hl 1 rfl) ?_
  refine lv_icmp_eq (tgt := 861) hx hb dL_law_856 (by decide) (fun _ => ?_) (fun q => absurd (e1.trans hk9.symm) q)
  refine lv_iload hx hb dL_law_861 (lv_at hl 1 rfl) ?_
  refine lv_if_ne (tgt := 878) hx hb dL_law_863 (by decide) (fun _ => ?_) (fun h0 => ?_)
  · skip
    refine lv_goto (tgt := 1510) hx hb dL_law_878 (by decide) ?_
    exact kk U H locs ls hRU hw hS (lv_sub hl [2, 3, 4, 5, 6, 7] rfl)
  have hn := cd_z (hk9.symm.trans h0)
  have f9 : ouS U 0 = (rmMI T a1).toInt64 := by rw [e2 hn, (x_c hXU).2.1, hT9, en_n hn, ou_ou, va_up_self]
  refine lv_aload_n hx hb dL_law_866 rfl (lv_at hl 5 rfl) ?_
  refine lv_iconst (v := nI 0) hx hb dL_law_867 (by decide) ?_
  refine all hx hb hw hT 13 0 (by decide) (f := ouS U) rfl 0 (by decide) (by decide) dL_law_868 ?_
  refine lv_iload hx hb dL_law_869 (lv_at hl 0 rfl) ?_
  refine lv_i2l hx hb dL_law_871 rfl ?_
  refine lc_eq (x := ouS U 0) (y := (rmMI T a1).toInt64) (tgt := 878) hx hb dL_law_872 dL_law_873 (by decide) (fun _ => ?_) (fun q => absurd f9 q)
  refine lv_goto (tgt := 1510) hx hb dL_law_878 (by decide) ?_
  exact kk U H locs ls hRU hw hS (lv_sub hl [2, 3, 4, 5, 6, 7] rfl)
set_option maxRecDepth 100000 in
set_option maxHeartbeats 1000000 in
theorem k_update {p : Program} {l : Launch} {e : Env} {s : State} {m : MethodId} {below : List Frame} {meth : Method} {c : Code} {b L : Nat} {xs : Nat → Int32} {G : Gm} (C : LC p l s m c b L xs G) {S : St} {H : Heap} {locs : List Loc} {ls : Array Slot} {cells slots i : Nat} {Q : State → Prop} (hR : Rel S S) (hw : wdM G S H s) (hS : va_S (g_A G) s.heap H locs) (hl : lv_has ls 8 (LV G b i)) (hi : i + 7 ≤ L) (hcs : cells + 3 ≤ room_1.cells ∧ slots + 18 ≤ room_1.slots)
    (kk : ∀ (S' : St) (H : Heap) (locs : List Loc) (ls : Array Slot), Rel S' S' → wdM G S' H s → va_S (g_A G) s.heap H locs → lv_has ls 8 (LV G b i) → W p l e room_1 s m #[Value.ref b] below meth c H locs (cells + 3) (slots + 18) Q (F0 m 1510 ls [])) : W p l e room_1 s m #[Value.ref b] below meth c H locs cells slots Q (F0 m 881 ls []) := by
  obtain ⟨hx, hb, hml, hown, hts, hX, hbl, hbA, hT, hN, hl0, hL⟩ := C
  have hl : lv_has ls 8 [(0, .ref b), (1, .ref (g_ad G 0 0)), (2, .ref (g_ad G 9 0)), (3, .ref (g_ad G 13 0)), (4, .ref (g_ad G 14 0)), (5, .int (nI i))] := hl
  refine lv_aload_n hx hb dL_law_881 rfl (lv_at hl 1 rfl) ?_
  refine lv_aload_n hx hb dL_law_882 rfl (lv_at hl 3 rfl) ?_
  refine cLi ⟨hx, hb, hml, hown, hts⟩ (h_update l G S hl0  hR.ip2.1 hR.ip2.2.1 hR.ip2.2.2) (vx_cwSW 2 hts gL_law_L_update rfl rfl rfl (by decide +kernel) ⟨(Nat.le_of_ble_eq_true rfl), (Nat.le_of_ble_eq_true rfl)⟩) hw hT hN hS (As := [.ref (g_ad G 0 0), .ref (g_ad G 13 0)]) (rest := []) rfl hl.1 rfl (Nat.le_of_ble_eq_true rfl) dL_law_883 ⟨Nat.le_trans (show cells + _ ≤ cells + 3 from Nat.add_le_add_left (Nat.le_of_ble_eq_true rfl) _) hcs.1, Nat.le_trans (show slots + _ ≤ slots + 18 from Nat.add_le_add_left (Nat.le_of_ble_eq_true rfl) _) hcs.2⟩ (fun H locs hw hS => ?_)
  refine W.widen (k := cells + 3) (n := slots + 18) (Nat.add_le_add_left (Nat.le_of_ble_eq_true rfl) _) (Nat.add_le_add_left (Nat.le_of_ble_eq_true rfl) _) ?_
  obtain ⟨T, hT9⟩ : ∃ z, z = enS (upX S) (upS S 512) (ouU (upF S) (va_up (ouS (upF S)) 0 ((psS (upF S) (ipS S).2).toInt64))) := ⟨_, rfl⟩
  rw [← hT9] at hw
  have hMT : MSt T = MSt S := by rw [hT9]; exact (M_en (M_up _ _) ((M_ou _ _).trans (M_upF _)))
  have hRT : Rel S T := hR.cls hMT
  have hCT : CSt T = CSt (enS (upX S) (upS S 512) (upF S)) := by rw [hT9]; exact C_en
  obtain ⟨e1, e2, e3⟩ := r_update hRT
  obtain ⟨k9, hk9⟩ : ∃ z, z = cdX xS (upX S) := ⟨_, rfl⟩
  refine top_i (y := k9) hk9.symm ?_
  refine lv_istore (lv' := [(6, .int k9), (0, .ref b), (1, .ref (g_ad G 0 0)), (2, .ref (g_ad G 9 0)), (3, .ref (g_ad G 13 0)), (4, .ref (g_ad G 14 0)), (5, .int (nI i))]) hx hb dL_law_886 hl (by decide) rfl (fun ls hl => ?_)
  refine lv_aload_n hx hb dL_law_888 rfl (lv_at hl 3 rfl) ?_
  refine cVi ⟨hx, hb, hml, hown, hts⟩ (m_update l G T) (cwV 0 hts gL_law_X4_update rfl rfl rfl (by decide +kernel) ⟨(Nat.le_of_ble_eq_true rfl), (Nat.le_of_ble_eq_true rfl)⟩) hw hT hS (rcv hw hT 9 0 (by decide) rfl rfl) (As := []) (rest := []) rfl hl.1 rfl (Nat.le_of_ble_eq_true rfl) dL_law_889 ⟨le_z hcs.1, le_z hcs.2⟩ (fun H locs hw hS => ?_)
  refine W.widen (k := cells + 3) (n := slots + 18) (Nat.le_refl _) (Nat.le_refl _) ?_
  obtain ⟨U, hU9⟩ : ∃ z, z = udMS T := ⟨_, rfl⟩
  rw [← hU9] at hw e1 e3
  have hXU : XSt U = XSt T := by rw [hU9]; exact X_ud _
  have hRU : Rel U U := e3.law (S := S) hCT hXU
  refine lv_istore (lv' := [(7, .int (udMI T)), (6, .int k9), (0, .ref b), (1, .ref (g_ad G 0 0)), (2, .ref (g_ad G 9 0)), (3, .ref (g_ad G 13 0)), (4, .ref (g_ad G 14 0)), (5, .int (nI i))]) hx hb dL_law_892 hl (by decide) rfl (fun ls hl => ?_)
  refine lv_aload_n hx hb dL_law_894 rfl (lv_at hl 4 rfl) ?_
  refine cVi ⟨hx, hb, hml, hown, hts⟩ (m_thrown l G U) (cwV 0 hts gL_law_X4_thrown rfl rfl rfl (by decide +kernel) ⟨(Nat.le_of_ble_eq_true rfl), (Nat.le_of_ble_eq_true rfl)⟩) hw hT hS (rcv hw hT 9 0 (by decide) rfl rfl) (As := []) (rest := []) rfl hl.1 rfl (Nat.le_of_ble_eq_true rfl) dL_law_895 ⟨le_z hcs.1, le_z hcs.2⟩ (fun H locs hw hS => ?_)
  refine W.widen (k := cells + 3) (n := slots + 18) (Nat.le_refl _) (Nat.le_refl _) ?_
  refine lv_iload hx hb dL_law_898 (lv_at hl 1 rfl) ?_
  refine lv_icmp_eq (tgt := 905) hx hb dL_law_900 (by decide) (fun _ => ?_) (fun q => absurd (e1.trans hk9.symm) q)
  refine lv_iload hx hb dL_law_905 (lv_at hl 1 rfl) ?_
  refine lv_if_ne (tgt := 922) hx hb dL_law_907 (by decide) (fun _ => ?_) (fun h0 => ?_)
  · skip
    refine lv_goto (tgt := 1510) hx hb dL_law_922 (by decide) ?_
    exact kk U H locs ls hRU hw hS (lv_sub hl [2, 3, 4, 5, 6, 7] rfl)
  have hn := cd_z (hk9.symm.trans h0)
  have f9 : ouS U 0 = (udMI T).toInt64 := by rw [e2 hn, (x_c hXU).2.1, hT9, en_n hn, ou_ou, va_up_self]
  refine lv_aload_n hx hb dL_law_910 rfl (lv_at hl 5 rfl) ?_
  refine lv_iconst (v := nI 0) hx hb dL_law_911 (by decide) ?_
  refine all hx hb hw hT 13 0 (by decide) (f := ouS U) rfl 0 (by decide) (by decide) dL_law_912 ?_
  refine lv_iload hx hb dL_law_913 (lv_at hl 0 rfl) ?_
  refine lv_i2l hx hb dL_law_915 rfl ?_
  refine lc_eq (x := ouS U 0) (y := (udMI T).toInt64) (tgt := 922) hx hb dL_law_916 dL_law_917 (by decide) (fun _ => ?_) (fun q => absurd f9 q)
  refine lv_goto (tgt := 1510) hx hb dL_law_922 (by decide) ?_
  exact kk U H locs ls hRU hw hS (lv_sub hl [2, 3, 4, 5, 6, 7] rfl)
set_option maxRecDepth 100000 in
set_option maxHeartbeats 1000000 in
theorem k_pair {p : Program} {l : Launch} {e : Env} {s : State} {m : MethodId} {below : List Frame} {meth : Method} {c : Code} {b L : Nat} {xs : Nat → Int32} {G : Gm} (C : LC p l s m c b L xs G) {S : St} {H : Heap} {locs : List Loc} {ls : Array Slot} {cells slots i : Nat} {Q : State → Prop} (hR : Rel S S) (hw : wdM G S H s) (hS : va_S (g_A G) s.heap H locs) (hl : lv_has ls 8 (LV G b i)) (hi : i + 7 ≤ L) (hcs : cells + 3 ≤ room_1.cells ∧ slots + 18 ≤ room_1.slots)
    (kk : ∀ (S' : St) (H : Heap) (locs : List Loc) (ls : Array Slot), Rel S' S' → wdM G S' H s → va_S (g_A G) s.heap H locs → lv_has ls 8 (LV G b i) → W p l e room_1 s m #[Value.ref b] below meth c H locs (cells + 3) (slots + 18) Q (F0 m 1510 ls [])) : W p l e room_1 s m #[Value.ref b] below meth c H locs cells slots Q (F0 m 925 ls []) := by
  obtain ⟨hx, hb, hml, hown, hts, hX, hbl, hbA, hT, hN, hl0, hL⟩ := C
  have hl : lv_has ls 8 [(0, .ref b), (1, .ref (g_ad G 0 0)), (2, .ref (g_ad G 9 0)), (3, .ref (g_ad G 13 0)), (4, .ref (g_ad G 14 0)), (5, .int (nI i))] := hl
  obtain ⟨a1, ha1⟩ : ∃ z, z = xs (i + 1) := ⟨_, rfl⟩
  obtain ⟨a2, ha2⟩ : ∃ z, z = xs (i + 2) := ⟨_, rfl⟩
  refine lv_aload_n hx hb dL_law_925 rfl (lv_at hl 1 rfl) ?_
  refine lv_aload_n hx hb dL_law_926 rfl (lv_at hl 0 rfl) ?_
  refine lv_iload hx hb dL_law_927 (lv_at hl 5 rfl) ?_
  refine lv_iconst (v := nI 1) hx hb dL_law_929 (by decide) ?_
  refine lv_iadd hx hb dL_law_930 ?_
  refine top_i (y := nI (i + 1)) (nI_add i 1) ?_
  refine sld hx hb hX hbl hbA hS (i + 1) (by omega) (by omega) (v := a1) ha1.symm dL_law_931 ?_
  refine lv_aload_n hx hb dL_law_932 rfl (lv_at hl 0 rfl) ?_
  refine lv_iload hx hb dL_law_933 (lv_at hl 5 rfl) ?_
  refine lv_iconst (v := nI 2) hx hb dL_law_935 (by decide) ?_
  refine lv_iadd hx hb dL_law_936 ?_
  refine top_i (y := nI (i + 2)) (nI_add i 2) ?_
  refine sld hx hb hX hbl hbA hS (i + 2) (by omega) (by omega) (v := a2) ha2.symm dL_law_937 ?_
  refine lv_aload_n hx hb dL_law_938 rfl (lv_at hl 3 rfl) ?_
  refine cLi ⟨hx, hb, hml, hown, hts⟩ (h_pair l G S hl0 a1 a2 hR.ip4.1 hR.ip4.2) (vx_cwSW 4 hts gL_law_L_pair rfl rfl rfl (by decide +kernel) ⟨(Nat.le_of_ble_eq_true rfl), (Nat.le_of_ble_eq_true rfl)⟩) hw hT hN hS (As := [.ref (g_ad G 0 0), .int a1, .int a2, .ref (g_ad G 13 0)]) (rest := []) rfl hl.1 rfl (Nat.le_of_ble_eq_true rfl) dL_law_939 ⟨Nat.le_trans (show cells + _ ≤ cells + 3 from Nat.add_le_add_left (Nat.le_of_ble_eq_true rfl) _) hcs.1, Nat.le_trans (show slots + _ ≤ slots + 18 from Nat.add_le_add_left (Nat.le_of_ble_eq_true rfl) _) hcs.2⟩ (fun H locs hw hS => ?_)
  refine W.widen (k := cells + 3) (n := slots + 18) (Nat.add_le_add_left (Nat.le_of_ble_eq_true rfl) _) (Nat.add_le_add_left (Nat.le_of_ble_eq_true rfl) _) ?_
  obtain ⟨T, hT9⟩ : ∃ z, z = enS (prX S a1 a2) S (ouU S (va_up (ouS S) 0 ((caF (pwS S (prI S a1)) 4096 0 a2).toInt64))) := ⟨_, rfl⟩
  rw [← hT9] at hw
  have hMT : MSt T = MSt S := by rw [hT9]; exact (M_en rfl (M_ou _ _))
  have hRT : Rel S T := hR.cls hMT
  have hCT : CSt T = CSt (enS (prX S a1 a2) S (S)) := by rw [hT9]; exact C_en
  obtain ⟨e1, e2, e3⟩ := r_pair hRT a1 a2
  have hCT : CSt T = CSt S := hCT.trans (by cases (prX S a1 a2) <;> rfl)
  obtain ⟨k9, hk9⟩ : ∃ z, z = cdX xI (prX S a1 a2) := ⟨_, rfl⟩
  refine top_i (y := k9) hk9.symm ?_
  refine lv_istore (lv' := [(6, .int k9), (0, .ref b), (1, .ref (g_ad G 0 0)), (2, .ref (g_ad G 9 0)), (3, .ref (g_ad G 13 0)), (4, .ref (g_ad G 14 0)), (5, .int (nI i))]) hx hb dL_law_942 hl (by decide) rfl (fun ls hl => ?_)
  refine lv_aload_n hx hb dL_law_944 rfl (lv_at hl 3 rfl) ?_
  refine lv_aload_n hx hb dL_law_945 rfl (lv_at hl 1 rfl) ?_
  refine lv_iload hx hb dL_law_946 (lv_at hl 6 rfl) ?_
  refine lv_iconst (v := nI 1) hx hb dL_law_948 (by decide) ?_
  refine lv_iadd hx hb dL_law_949 ?_
  refine top_i (y := nI (i + 1)) (nI_add i 1) ?_
  refine sld hx hb hX hbl hbA hS (i + 1) (by omega) (by omega) (v := a1) ha1.symm dL_law_950 ?_
  refine lv_aload_n hx hb dL_law_951 rfl (lv_at hl 1 rfl) ?_
  refine lv_iload hx hb dL_law_952 (lv_at hl 6 rfl) ?_
  refine lv_iconst (v := nI 2) hx hb dL_law_954 (by decide) ?_
  refine lv_iadd hx hb dL_law_955 ?_
  refine top_i (y := nI (i + 2)) (nI_add i 2) ?_
  refine sld hx hb hX hbl hbA hS (i + 2) (by omega) (by omega) (v := a2) ha2.symm dL_law_956 ?_
  refine cVi ⟨hx, hb, hml, hown, hts⟩ (m_pair l G T a1 a2) (cwV 2 hts gL_law_X4_pair rfl rfl rfl (by decide +kernel) ⟨(Nat.le_of_ble_eq_true rfl), (Nat.le_of_ble_eq_true rfl)⟩) hw hT hS (rcv hw hT 9 0 (by decide) rfl rfl) (As := [.int a1, .int a2]) (rest := []) rfl hl.1 rfl (Nat.le_of_ble_eq_true rfl) dL_law_957 ⟨le_z hcs.1, le_z hcs.2⟩ (fun H locs hw hS => ?_)
  refine W.widen (k := cells + 3) (n := slots + 18) (Nat.le_refl _) (Nat.le_refl _) ?_
  obtain ⟨U, hU9⟩ : ∃ z, z = prMS T a1 a2 := ⟨_, rfl⟩
  rw [← hU9] at hw e1 e3
  have hXU : XSt U = XSt T := by rw [hU9]; exact X_gs _ _ _
  have hRU : Rel U U := e3.law (S := S) hCT hXU
  refine lv_istore (lv' := [(7, .int (prMI T a1 a2)), (6, .int k9), (0, .ref b), (1, .ref (g_ad G 0 0)), (2, .ref (g_ad G 9 0)), (3, .ref (g_ad G 13 0)), (4, .ref (g_ad G 14 0)), (5, .int (nI i))]) hx hb dL_law_960 hl (by decide) rfl (fun ls hl => ?_)
  refine lv_aload_n hx hb dL_law_962 rfl (lv_at hl 4 rfl) ?_
  refine cVi ⟨hx, hb, hml, hown, hts⟩ (m_thrown l G U) (cwV 0 hts gL_law_X4_thrown rfl rfl rfl (by decide +kernel) ⟨(Nat.le_of_ble_eq_true rfl), (Nat.le_of_ble_eq_true rfl)⟩) hw hT hS (rcv hw hT 9 0 (by decide) rfl rfl) (As := []) (rest := []) rfl hl.1 rfl (Nat.le_of_ble_eq_true rfl) dL_law_963 ⟨le_z hcs.1, le_z hcs.2⟩ (fun H locs hw hS => ?_)
  refine W.widen (k := cells + 3) (n := slots + 18) (Nat.le_refl _) (Nat.le_refl _) ?_
  refine lv_iload hx hb dL_law_966 (lv_at hl 1 rfl) ?_
  refine lv_icmp_eq (tgt := 973) hx hb dL_law_968 (by decide) (fun _ => ?_) (fun q => absurd (e1.trans hk9.symm) q)
  refine lv_iload hx hb dL_law_973 (lv_at hl 1 rfl) ?_
  refine lv_if_ne (tgt := 990) hx hb dL_law_975 (by decide) (fun _ => ?_) (fun h0 => ?_)
  · skip
    refine lv_goto (tgt := 1510) hx hb dL_law_990 (by decide) ?_
    exact kk U H locs ls hRU hw hS (lv_sub hl [2, 3, 4, 5, 6, 7] rfl)
  have hn := cd_z (hk9.symm.trans h0)
  have f9 : ouS U 0 = (prMI T a1 a2).toInt64 := by rw [e2 hn, (x_c hXU).2.1, hT9, en_n hn, ou_ou, va_up_self]
  refine lv_aload_n hx hb dL_law_978 rfl (lv_at hl 5 rfl) ?_
  refine lv_iconst (v := nI 0) hx hb dL_law_979 (by decide) ?_
  refine all hx hb hw hT 13 0 (by decide) (f := ouS U) rfl 0 (by decide) (by decide) dL_law_980 ?_
  refine lv_iload hx hb dL_law_981 (lv_at hl 0 rfl) ?_
  refine lv_i2l hx hb dL_law_983 rfl ?_
  refine lc_eq (x := ouS U 0) (y := (prMI T a1 a2).toInt64) (tgt := 990) hx hb dL_law_984 dL_law_985 (by decide) (fun _ => ?_) (fun q => absurd f9 q)
  refine lv_goto (tgt := 1510) hx hb dL_law_990 (by decide) ?_
  exact kk U H locs ls hRU hw hS (lv_sub hl [2, 3, 4, 5, 6, 7] rfl)
set_option maxRecDepth 100000 in
set_option maxHeartbeats 1000000 in
theorem k_paired {p : Program} {l : Launch} {e : Env} {s : State} {m : MethodId} {below : List Frame} {meth : Method} {c : Code} {b L : Nat} {xs : Nat → Int32} {G : Gm} (C : LC p l s m c b L xs G) {S : St} {H : Heap} {locs : List Loc} {ls : Array Slot} {cells slots i : Nat} {Q : State → Prop} (hR : Rel S S) (hw : wdM G S H s) (hS : va_S (g_A G) s.heap H locs) (hl : lv_has ls 8 (LV G b i)) (hi : i + 7 ≤ L) (hcs : cells + 3 ≤ room_1.cells ∧ slots + 18 ≤ room_1.slots)
    (kk : ∀ (S' : St) (H : Heap) (locs : List Loc) (ls : Array Slot), Rel S' S' → wdM G S' H s → va_S (g_A G) s.heap H locs → lv_has ls 8 (LV G b i) → W p l e room_1 s m #[Value.ref b] below meth c H locs (cells + 3) (slots + 18) Q (F0 m 1510 ls [])) : W p l e room_1 s m #[Value.ref b] below meth c H locs cells slots Q (F0 m 993 ls []) := by
  obtain ⟨hx, hb, hml, hown, hts, hX, hbl, hbA, hT, hN, hl0, hL⟩ := C
  have hl : lv_has ls 8 [(0, .ref b), (1, .ref (g_ad G 0 0)), (2, .ref (g_ad G 9 0)), (3, .ref (g_ad G 13 0)), (4, .ref (g_ad G 14 0)), (5, .int (nI i))] := hl
  obtain ⟨a1, ha1⟩ : ∃ z, z = xs (i + 1) := ⟨_, rfl⟩
  obtain ⟨a2, ha2⟩ : ∃ z, z = xs (i + 2) := ⟨_, rfl⟩
  refine lv_aload_n hx hb dL_law_993 rfl (lv_at hl 1 rfl) ?_
  refine lv_aload_n hx hb dL_law_994 rfl (lv_at hl 0 rfl) ?_
  refine lv_iload hx hb dL_law_995 (lv_at hl 5 rfl) ?_
  refine lv_iconst (v := nI 1) hx hb dL_law_997 (by decide) ?_
  refine lv_iadd hx hb dL_law_998 ?_
  refine top_i (y := nI (i + 1)) (nI_add i 1) ?_
  refine sld hx hb hX hbl hbA hS (i + 1) (by omega) (by omega) (v := a1) ha1.symm dL_law_999 ?_
  refine lv_aload_n hx hb dL_law_1000 rfl (lv_at hl 0 rfl) ?_
  refine lv_iload hx hb dL_law_1001 (lv_at hl 5 rfl) ?_
  refine lv_iconst (v := nI 2) hx hb dL_law_1003 (by decide) ?_
  refine lv_iadd hx hb dL_law_1004 ?_
  refine top_i (y := nI (i + 2)) (nI_add i 2) ?_
  refine sld hx hb hX hbl hbA hS (i + 2) (by omega) (by omega) (v := a2) ha2.symm dL_law_1005 ?_
  refine lv_aload_n hx hb dL_law_1006 rfl (lv_at hl 3 rfl) ?_
  refine cLi ⟨hx, hb, hml, hown, hts⟩ (h_paired l G S hl0 a1 a2 hR.ip4.1 hR.ip4.2) (vx_cwSW 4 hts gL_law_L_paired rfl rfl rfl (by decide +kernel) ⟨(Nat.le_of_ble_eq_true rfl), (Nat.le_of_ble_eq_true rfl)⟩) hw hT hN hS (As := [.ref (g_ad G 0 0), .int a1, .int a2, .ref (g_ad G 13 0)]) (rest := []) rfl hl.1 rfl (Nat.le_of_ble_eq_true rfl) dL_law_1007 ⟨Nat.le_trans (show cells + _ ≤ cells + 3 from Nat.add_le_add_left (Nat.le_of_ble_eq_true rfl) _) hcs.1, Nat.le_trans (show slots + _ ≤ slots + 18 from Nat.add_le_add_left (Nat.le_of_ble_eq_true rfl) _) hcs.2⟩ (fun H locs hw hS => ?_)
  refine W.widen (k := cells + 3) (n := slots + 18) (Nat.add_le_add_left (Nat.le_of_ble_eq_true rfl) _) (Nat.add_le_add_left (Nat.le_of_ble_eq_true rfl) _) ?_
  obtain ⟨T, hT9⟩ : ∃ z, z = enS (orX (thereX S a1) (thereX S a2)) S (ouU S (va_up (ouS S) 0 (bL (apB S (kN a1) (kN a2))))) := ⟨_, rfl⟩
  rw [← hT9] at hw
  have hMT : MSt T = MSt S := by rw [hT9]; exact (M_en rfl (M_ou _ _))
  have hRT : Rel S T := hR.cls hMT
  have hCT : CSt T = CSt (enS (orX (thereX S a1) (thereX S a2)) S (S)) := by rw [hT9]; exact C_en
  obtain ⟨e1, e2, e3⟩ := r_paired hRT a1 a2
  have hCT : CSt T = CSt S := hCT.trans (by cases (orX (thereX S a1) (thereX S a2)) <;> rfl)
  obtain ⟨k9, hk9⟩ : ∃ z, z = cdX xI (orX (thereX S a1) (thereX S a2)) := ⟨_, rfl⟩
  refine top_i (y := k9) hk9.symm ?_
  refine lv_istore (lv' := [(6, .int k9), (0, .ref b), (1, .ref (g_ad G 0 0)), (2, .ref (g_ad G 9 0)), (3, .ref (g_ad G 13 0)), (4, .ref (g_ad G 14 0)), (5, .int (nI i))]) hx hb dL_law_1010 hl (by decide) rfl (fun ls hl => ?_)
  refine lv_aload_n hx hb dL_law_1012 rfl (lv_at hl 3 rfl) ?_
  refine lv_aload_n hx hb dL_law_1013 rfl (lv_at hl 1 rfl) ?_
  refine lv_iload hx hb dL_law_1014 (lv_at hl 6 rfl) ?_
  refine lv_iconst (v := nI 1) hx hb dL_law_1016 (by decide) ?_
  refine lv_iadd hx hb dL_law_1017 ?_
  refine top_i (y := nI (i + 1)) (nI_add i 1) ?_
  refine sld hx hb hX hbl hbA hS (i + 1) (by omega) (by omega) (v := a1) ha1.symm dL_law_1018 ?_
  refine lv_aload_n hx hb dL_law_1019 rfl (lv_at hl 1 rfl) ?_
  refine lv_iload hx hb dL_law_1020 (lv_at hl 6 rfl) ?_
  refine lv_iconst (v := nI 2) hx hb dL_law_1022 (by decide) ?_
  refine lv_iadd hx hb dL_law_1023 ?_
  refine top_i (y := nI (i + 2)) (nI_add i 2) ?_
  refine sld hx hb hX hbl hbA hS (i + 2) (by omega) (by omega) (v := a2) ha2.symm dL_law_1024 ?_
  refine cVi ⟨hx, hb, hml, hown, hts⟩ (m_paired l G T a1 a2) (cwV 2 hts gL_law_X4_paired rfl rfl rfl (by decide +kernel) ⟨(Nat.le_of_ble_eq_true rfl), (Nat.le_of_ble_eq_true rfl)⟩) hw hT hS (rcv hw hT 9 0 (by decide) rfl rfl) (As := [.int a1, .int a2]) (rest := []) rfl hl.1 rfl (Nat.le_of_ble_eq_true rfl) dL_law_1025 ⟨le_z hcs.1, le_z hcs.2⟩ (fun H locs hw hS => ?_)
  refine W.widen (k := cells + 3) (n := slots + 18) (Nat.le_refl _) (Nat.le_refl _) ?_
  obtain ⟨U, hU9⟩ : ∃ z, z = pdMS T a1 a2 := ⟨_, rfl⟩
  rw [← hU9] at hw e1 e3
  have hXU : XSt U = XSt T := by rw [hU9]; exact X_gs _ _ _
  have hRU : Rel U U := e3.law (S := S) hCT hXU
  refine lv_istore (lv' := [(7, .int (bI (pdM T a1 a2))), (6, .int k9), (0, .ref b), (1, .ref (g_ad G 0 0)), (2, .ref (g_ad G 9 0)), (3, .ref (g_ad G 13 0)), (4, .ref (g_ad G 14 0)), (5, .int (nI i))]) hx hb dL_law_1028 hl (by decide) rfl (fun ls hl => ?_)
  refine lv_aload_n hx hb dL_law_1030 rfl (lv_at hl 4 rfl) ?_
  refine cVi ⟨hx, hb, hml, hown, hts⟩ (m_thrown l G U) (cwV 0 hts gL_law_X4_thrown rfl rfl rfl (by decide +kernel) ⟨(Nat.le_of_ble_eq_true rfl), (Nat.le_of_ble_eq_true rfl)⟩) hw hT hS (rcv hw hT 9 0 (by decide) rfl rfl) (As := []) (rest := []) rfl hl.1 rfl (Nat.le_of_ble_eq_true rfl) dL_law_1031 ⟨le_z hcs.1, le_z hcs.2⟩ (fun H locs hw hS => ?_)
  refine W.widen (k := cells + 3) (n := slots + 18) (Nat.le_refl _) (Nat.le_refl _) ?_
  refine lv_iload hx hb dL_law_1034 (lv_at hl 1 rfl) ?_
  refine lv_icmp_eq (tgt := 1041) hx hb dL_law_1036 (by decide) (fun _ => ?_) (fun q => absurd (e1.trans hk9.symm) q)
  refine lv_iload hx hb dL_law_1041 (lv_at hl 1 rfl) ?_
  refine lv_if_ne (tgt := 1065) hx hb dL_law_1043 (by decide) (fun _ => ?_) (fun h0 => ?_)
  · skip
    refine lv_goto (tgt := 1510) hx hb dL_law_1065 (by decide) ?_
    exact kk U H locs ls hRU hw hS (lv_sub hl [2, 3, 4, 5, 6, 7] rfl)
  have hn := cd_z (hk9.symm.trans h0)
  have f9 : ouS U 0 = bL (pdM T a1 a2) := by rw [e2 hn, (x_c hXU).2.1, hT9, en_n hn, ou_ou, va_up_self]
  refine lv_aload_n hx hb dL_law_1046 rfl (lv_at hl 5 rfl) ?_
  refine lv_iconst (v := nI 0) hx hb dL_law_1047 (by decide) ?_
  refine all hx hb hw hT 13 0 (by decide) (f := ouS U) rfl 0 (by decide) (by decide) dL_law_1048 ?_
  refine lv_iload hx hb dL_law_1049 (lv_at hl 0 rfl) ?_
  refine lv_if_eq (tgt := 1058) hx hb dL_law_1051 (by decide) (fun h5 => ?_) (fun h5 => ?_)
  · skip
    refine lv_lconst (v := 0) hx hb dL_law_1058 (by decide) ?_
    refine lc_eq (x := ouS U 0) (y := 0) (tgt := 1065) hx hb dL_law_1059 dL_law_1060 (by decide) (fun _ => ?_) (fun q => absurd (f9.trans (bL_0 h5)) q)
    refine lv_goto (tgt := 1510) hx hb dL_law_1065 (by decide) ?_
    exact kk U H locs ls hRU hw hS (lv_sub hl [2, 3, 4, 5, 6, 7] rfl)
  · skip
    refine lv_lconst (v := 1) hx hb dL_law_1054 (by decide) ?_
    refine lv_goto (tgt := 1059) hx hb dL_law_1055 (by decide) ?_
    refine lc_eq (x := ouS U 0) (y := 1) (tgt := 1065) hx hb dL_law_1059 dL_law_1060 (by decide) (fun _ => ?_) (fun q => absurd (f9.trans (bL_1 h5)) q)
    refine lv_goto (tgt := 1510) hx hb dL_law_1065 (by decide) ?_
    exact kk U H locs ls hRU hw hS (lv_sub hl [2, 3, 4, 5, 6, 7] rfl)
set_option maxRecDepth 100000 in
set_option maxHeartbeats 1000000 in
theorem k_overlapping {p : Program} {l : Launch} {e : Env} {s : State} {m : MethodId} {below : List Frame} {meth : Method} {c : Code} {b L : Nat} {xs : Nat → Int32} {G : Gm} (C : LC p l s m c b L xs G) {S : St} {H : Heap} {locs : List Loc} {ls : Array Slot} {cells slots i : Nat} {Q : State → Prop} (hR : Rel S S) (hw : wdM G S H s) (hS : va_S (g_A G) s.heap H locs) (hl : lv_has ls 8 (LV G b i)) (hi : i + 7 ≤ L) (hcs : cells + 3 ≤ room_1.cells ∧ slots + 18 ≤ room_1.slots)
    (kk : ∀ (S' : St) (H : Heap) (locs : List Loc) (ls : Array Slot), Rel S' S' → wdM G S' H s → va_S (g_A G) s.heap H locs → lv_has ls 8 (LV G b i) → W p l e room_1 s m #[Value.ref b] below meth c H locs (cells + 3) (slots + 18) Q (F0 m 1510 ls [])) : W p l e room_1 s m #[Value.ref b] below meth c H locs cells slots Q (F0 m 1068 ls []) := by
  obtain ⟨hx, hb, hml, hown, hts, hX, hbl, hbA, hT, hN, hl0, hL⟩ := C
  have hl : lv_has ls 8 [(0, .ref b), (1, .ref (g_ad G 0 0)), (2, .ref (g_ad G 9 0)), (3, .ref (g_ad G 13 0)), (4, .ref (g_ad G 14 0)), (5, .int (nI i))] := hl
  obtain ⟨a1, ha1⟩ : ∃ z, z = xs (i + 1) := ⟨_, rfl⟩
  refine lv_aload_n hx hb dL_law_1068 rfl (lv_at hl 1 rfl) ?_
  refine lv_aload_n hx hb dL_law_1069 rfl (lv_at hl 0 rfl) ?_
  refine lv_iload hx hb dL_law_1070 (lv_at hl 5 rfl) ?_
  refine lv_iconst (v := nI 1) hx hb dL_law_1072 (by decide) ?_
  refine lv_iadd hx hb dL_law_1073 ?_
  refine top_i (y := nI (i + 1)) (nI_add i 1) ?_
  refine sld hx hb hX hbl hbA hS (i + 1) (by omega) (by omega) (v := a1) ha1.symm dL_law_1074 ?_
  refine lv_aload_n hx hb dL_law_1075 rfl (lv_at hl 3 rfl) ?_
  refine cLi ⟨hx, hb, hml, hown, hts⟩ (h_overlapping l G S hl0 a1 ) (vx_cwSW 3 hts gL_law_L_overlapping rfl rfl rfl (by decide +kernel) ⟨(Nat.le_of_ble_eq_true rfl), (Nat.le_of_ble_eq_true rfl)⟩) hw hT hN hS (As := [.ref (g_ad G 0 0), .int a1, .ref (g_ad G 13 0)]) (rest := []) rfl hl.1 rfl (Nat.le_of_ble_eq_true rfl) dL_law_1076 ⟨Nat.le_trans (show cells + _ ≤ cells + 3 from Nat.add_le_add_left (Nat.le_of_ble_eq_true rfl) _) hcs.1, Nat.le_trans (show slots + _ ≤ slots + 18 from Nat.add_le_add_left (Nat.le_of_ble_eq_true rfl) _) hcs.2⟩ (fun H locs hw hS => ?_)
  refine W.widen (k := cells + 3) (n := slots + 18) (Nat.add_le_add_left (Nat.le_of_ble_eq_true rfl) _) (Nat.add_le_add_left (Nat.le_of_ble_eq_true rfl) _) ?_
  obtain ⟨T, hT9⟩ : ∃ z, z = enS (padX S) S (ouU (ofR a1 512 0 (fzS S) 0) (va_up (ouS (ofR a1 512 0 (fzS S) 0)) 0 ((nfS (ofR a1 512 0 (fzS S) 0) 2).toInt64))) := ⟨_, rfl⟩
  rw [← hT9] at hw
  have hMT : MSt T = MSt S := by rw [hT9]; exact (M_en rfl ((M_ou _ _).trans ((M_of _ _ _ _ _).trans (M_fz _))))
  have hRT : Rel S T := hR.cls hMT
  have hCT : CSt T = CSt (enS (padX S) S (ofR a1 512 0 (fzS S) 0)) := by rw [hT9]; exact C_en
  obtain ⟨e1, e2, e3⟩ := r_overlapping hRT a1
  obtain ⟨k9, hk9⟩ : ∃ z, z = cdX xA (padX S) := ⟨_, rfl⟩
  refine top_i (y := k9) hk9.symm ?_
  refine lv_istore (lv' := [(6, .int k9), (0, .ref b), (1, .ref (g_ad G 0 0)), (2, .ref (g_ad G 9 0)), (3, .ref (g_ad G 13 0)), (4, .ref (g_ad G 14 0)), (5, .int (nI i))]) hx hb dL_law_1079 hl (by decide) rfl (fun ls hl => ?_)
  refine lv_aload_n hx hb dL_law_1081 rfl (lv_at hl 3 rfl) ?_
  refine lv_aload_n hx hb dL_law_1082 rfl (lv_at hl 1 rfl) ?_
  refine lv_iload hx hb dL_law_1083 (lv_at hl 6 rfl) ?_
  refine lv_iconst (v := nI 1) hx hb dL_law_1085 (by decide) ?_
  refine lv_iadd hx hb dL_law_1086 ?_
  refine top_i (y := nI (i + 1)) (nI_add i 1) ?_
  refine sld hx hb hX hbl hbA hS (i + 1) (by omega) (by omega) (v := a1) ha1.symm dL_law_1087 ?_
  refine cVi ⟨hx, hb, hml, hown, hts⟩ (m_overlapping l G T a1) (cwV 1 hts gL_law_X4_overlapping rfl rfl rfl (by decide +kernel) ⟨(Nat.le_of_ble_eq_true rfl), (Nat.le_of_ble_eq_true rfl)⟩) hw hT hS (rcv hw hT 9 0 (by decide) rfl rfl) (As := [.int a1]) (rest := []) rfl hl.1 rfl (Nat.le_of_ble_eq_true rfl) dL_law_1088 ⟨le_z hcs.1, le_z hcs.2⟩ (fun H locs hw hS => ?_)
  refine W.widen (k := cells + 3) (n := slots + 18) (Nat.le_refl _) (Nat.le_refl _) ?_
  obtain ⟨U, hU9⟩ : ∃ z, z = olMS T a1 := ⟨_, rfl⟩
  rw [← hU9] at hw e1 e3
  have hXU : XSt U = XSt T := by rw [hU9]; exact X_ol _ _
  have hRU : Rel U U := e3.law (S := S) hCT hXU
  refine lv_istore (lv' := [(7, .int (olMI T a1)), (6, .int k9), (0, .ref b), (1, .ref (g_ad G 0 0)), (2, .ref (g_ad G 9 0)), (3, .ref (g_ad G 13 0)), (4, .ref (g_ad G 14 0)), (5, .int (nI i))]) hx hb dL_law_1091 hl (by decide) rfl (fun ls hl => ?_)
  refine lv_aload_n hx hb dL_law_1093 rfl (lv_at hl 4 rfl) ?_
  refine cVi ⟨hx, hb, hml, hown, hts⟩ (m_thrown l G U) (cwV 0 hts gL_law_X4_thrown rfl rfl rfl (by decide +kernel) ⟨(Nat.le_of_ble_eq_true rfl), (Nat.le_of_ble_eq_true rfl)⟩) hw hT hS (rcv hw hT 9 0 (by decide) rfl rfl) (As := []) (rest := []) rfl hl.1 rfl (Nat.le_of_ble_eq_true rfl) dL_law_1094 ⟨le_z hcs.1, le_z hcs.2⟩ (fun H locs hw hS => ?_)
  refine W.widen (k := cells + 3) (n := slots + 18) (Nat.le_refl _) (Nat.le_refl _) ?_
  refine lv_iload hx hb dL_law_1097 (lv_at hl 1 rfl) ?_
  refine lv_icmp_eq (tgt := 1104) hx hb dL_law_1099 (by decide) (fun _ => ?_) (fun q => absurd (e1.trans hk9.symm) q)
  refine lv_iload hx hb dL_law_1104 (lv_at hl 1 rfl) ?_
  refine lv_if_ne (tgt := 1121) hx hb dL_law_1106 (by decide) (fun _ => ?_) (fun h0 => ?_)
  · skip
    refine lv_goto (tgt := 1510) hx hb dL_law_1121 (by decide) ?_
    exact kk U H locs ls hRU hw hS (lv_sub hl [2, 3, 4, 5, 6, 7] rfl)
  have hn := cd_z (hk9.symm.trans h0)
  have f9 : ouS U 0 = (olMI T a1).toInt64 := by rw [e2 hn, (x_c hXU).2.1, hT9, en_n hn, ou_ou, va_up_self]
  refine lv_aload_n hx hb dL_law_1109 rfl (lv_at hl 5 rfl) ?_
  refine lv_iconst (v := nI 0) hx hb dL_law_1110 (by decide) ?_
  refine all hx hb hw hT 13 0 (by decide) (f := ouS U) rfl 0 (by decide) (by decide) dL_law_1111 ?_
  refine lv_iload hx hb dL_law_1112 (lv_at hl 0 rfl) ?_
  refine lv_i2l hx hb dL_law_1114 rfl ?_
  refine lc_eq (x := ouS U 0) (y := (olMI T a1).toInt64) (tgt := 1121) hx hb dL_law_1115 dL_law_1116 (by decide) (fun _ => ?_) (fun q => absurd f9 q)
  refine lv_goto (tgt := 1510) hx hb dL_law_1121 (by decide) ?_
  exact kk U H locs ls hRU hw hS (lv_sub hl [2, 3, 4, 5, 6, 7] rfl)
set_option maxRecDepth 100000 in
set_option maxHeartbeats 1000000 in
theorem k_found {p : Program} {l : Launch} {e : Env} {s : State} {m : MethodId} {below : List Frame} {meth : Method} {c : Code} {b L : Nat} {xs : Nat → Int32} {G : Gm} (C : LC p l s m c b L xs G) {S : St} {H : Heap} {locs : List Loc} {ls : Array Slot} {cells slots i : Nat} {Q : State → Prop} (hR : Rel S S) (hw : wdM G S H s) (hS : va_S (g_A G) s.heap H locs) (hl : lv_has ls 8 (LV G b i)) (hi : i + 7 ≤ L) (hcs : cells + 3 ≤ room_1.cells ∧ slots + 18 ≤ room_1.slots)
    (kk : ∀ (S' : St) (H : Heap) (locs : List Loc) (ls : Array Slot), Rel S' S' → wdM G S' H s → va_S (g_A G) s.heap H locs → lv_has ls 8 (LV G b i) → W p l e room_1 s m #[Value.ref b] below meth c H locs (cells + 3) (slots + 18) Q (F0 m 1510 ls [])) : W p l e room_1 s m #[Value.ref b] below meth c H locs cells slots Q (F0 m 1149 ls []) := by
  obtain ⟨hx, hb, hml, hown, hts, hX, hbl, hbA, hT, hN, hl0, hL⟩ := C
  have hl : lv_has ls 8 [(0, .ref b), (1, .ref (g_ad G 0 0)), (2, .ref (g_ad G 9 0)), (3, .ref (g_ad G 13 0)), (4, .ref (g_ad G 14 0)), (5, .int (nI i))] := hl
  obtain ⟨a1, ha1⟩ : ∃ z, z = xs (i + 1) := ⟨_, rfl⟩
  obtain ⟨c9, hc5, hcn, -⟩ := hR.fc
  refine lv_aload_n hx hb dL_law_1149 rfl (lv_at hl 1 rfl) ?_
  refine lv_aload_n hx hb dL_law_1150 rfl (lv_at hl 0 rfl) ?_
  refine lv_iload hx hb dL_law_1151 (lv_at hl 5 rfl) ?_
  refine lv_iconst (v := nI 1) hx hb dL_law_1153 (by decide) ?_
  refine lv_iadd hx hb dL_law_1154 ?_
  refine top_i (y := nI (i + 1)) (nI_add i 1) ?_
  refine sld hx hb hX hbl hbA hS (i + 1) (by omega) (by omega) (v := a1) ha1.symm dL_law_1155 ?_
  refine lv_aload_n hx hb dL_law_1156 rfl (lv_at hl 3 rfl) ?_
  refine cLi ⟨hx, hb, hml, hown, hts⟩ (h_found l G S hl0 a1 c9 hcn hc5) (vx_cwSW 3 hts gL_law_L_found rfl rfl rfl (by decide +kernel) ⟨(Nat.le_of_ble_eq_true rfl), (Nat.le_of_ble_eq_true rfl)⟩) hw hT hN hS (As := [.ref (g_ad G 0 0), .int a1, .ref (g_ad G 13 0)]) (rest := []) rfl hl.1 rfl (Nat.le_of_ble_eq_true rfl) dL_law_1157 ⟨Nat.le_trans (show cells + _ ≤ cells + 3 from Nat.add_le_add_left (Nat.le_of_ble_eq_true rfl) _) hcs.1, Nat.le_trans (show slots + _ ≤ slots + 18 from Nat.add_le_add_left (Nat.le_of_ble_eq_true rfl) _) hcs.2⟩ (fun H locs hw hS => ?_)
  refine W.widen (k := cells + 3) (n := slots + 18) (Nat.add_le_add_left (Nat.le_of_ble_eq_true rfl) _) (Nat.add_le_add_left (Nat.le_of_ble_eq_true rfl) _) ?_
  obtain ⟨T, hT9⟩ : ∃ z, z = enS (foundX S a1) S (ouU S (va_up (ouS S) 0 ((fbS S (kN a1)).toInt64))) := ⟨_, rfl⟩
  rw [← hT9] at hw
  have hMT : MSt T = MSt S := by rw [hT9]; exact (M_en rfl (M_ou _ _))
  have hRT : Rel S T := hR.cls hMT
  have hCT : CSt T = CSt (enS (foundX S a1) S (S)) := by rw [hT9]; exact C_en
  obtain ⟨e1, e2, e3⟩ := r_found hRT a1
  have hCT : CSt T = CSt S := hCT.trans (by cases (foundX S a1) <;> rfl)
  obtain ⟨k9, hk9⟩ : ∃ z, z = cdX xI (foundX S a1) := ⟨_, rfl⟩
  refine top_i (y := k9) hk9.symm ?_
  refine lv_istore (lv' := [(6, .int k9), (0, .ref b), (1, .ref (g_ad G 0 0)), (2, .ref (g_ad G 9 0)), (3, .ref (g_ad G 13 0)), (4, .ref (g_ad G 14 0)), (5, .int (nI i))]) hx hb dL_law_1160 hl (by decide) rfl (fun ls hl => ?_)
  obtain ⟨c8, hc6, -, hcm⟩ := hRT.fc
  refine lv_aload_n hx hb dL_law_1162 rfl (lv_at hl 3 rfl) ?_
  refine lv_aload_n hx hb dL_law_1163 rfl (lv_at hl 1 rfl) ?_
  refine lv_iload hx hb dL_law_1164 (lv_at hl 6 rfl) ?_
  refine lv_iconst (v := nI 1) hx hb dL_law_1166 (by decide) ?_
  refine lv_iadd hx hb dL_law_1167 ?_
  refine top_i (y := nI (i + 1)) (nI_add i 1) ?_
  refine sld hx hb hX hbl hbA hS (i + 1) (by omega) (by omega) (v := a1) ha1.symm dL_law_1168 ?_
  refine cVi ⟨hx, hb, hml, hown, hts⟩ (m_found l G T c8 hcm hc6 a1) (cwV 1 hts gL_law_X4_found rfl rfl rfl (by decide +kernel) ⟨(Nat.le_of_ble_eq_true rfl), (Nat.le_of_ble_eq_true rfl)⟩) hw hT hS (rcv hw hT 9 0 (by decide) rfl rfl) (As := [.int a1]) (rest := []) rfl hl.1 rfl (Nat.le_of_ble_eq_true rfl) dL_law_1169 ⟨le_z hcs.1, le_z hcs.2⟩ (fun H locs hw hS => ?_)
  refine W.widen (k := cells + 3) (n := slots + 18) (Nat.le_refl _) (Nat.le_refl _) ?_
  obtain ⟨U, hU9⟩ : ∃ z, z = fdMS T a1 := ⟨_, rfl⟩
  rw [← hU9] at hw e1 e3
  have hXU : XSt U = XSt T := by rw [hU9]; exact X_gs _ _ _
  have hRU : Rel U U := e3.law (S := S) hCT hXU
  refine lv_istore (lv' := [(7, .int (fdMI T a1)), (6, .int k9), (0, .ref b), (1, .ref (g_ad G 0 0)), (2, .ref (g_ad G 9 0)), (3, .ref (g_ad G 13 0)), (4, .ref (g_ad G 14 0)), (5, .int (nI i))]) hx hb dL_law_1172 hl (by decide) rfl (fun ls hl => ?_)
  refine lv_aload_n hx hb dL_law_1174 rfl (lv_at hl 4 rfl) ?_
  refine cVi ⟨hx, hb, hml, hown, hts⟩ (m_thrown l G U) (cwV 0 hts gL_law_X4_thrown rfl rfl rfl (by decide +kernel) ⟨(Nat.le_of_ble_eq_true rfl), (Nat.le_of_ble_eq_true rfl)⟩) hw hT hS (rcv hw hT 9 0 (by decide) rfl rfl) (As := []) (rest := []) rfl hl.1 rfl (Nat.le_of_ble_eq_true rfl) dL_law_1175 ⟨le_z hcs.1, le_z hcs.2⟩ (fun H locs hw hS => ?_)
  refine W.widen (k := cells + 3) (n := slots + 18) (Nat.le_refl _) (Nat.le_refl _) ?_
  refine lv_iload hx hb dL_law_1178 (lv_at hl 1 rfl) ?_
  refine lv_icmp_eq (tgt := 1185) hx hb dL_law_1180 (by decide) (fun _ => ?_) (fun q => absurd (e1.trans hk9.symm) q)
  refine lv_iload hx hb dL_law_1185 (lv_at hl 1 rfl) ?_
  refine lv_if_ne (tgt := 1202) hx hb dL_law_1187 (by decide) (fun _ => ?_) (fun h0 => ?_)
  · skip
    refine lv_goto (tgt := 1510) hx hb dL_law_1202 (by decide) ?_
    exact kk U H locs ls hRU hw hS (lv_sub hl [2, 3, 4, 5, 6, 7] rfl)
  have hn := cd_z (hk9.symm.trans h0)
  have f9 : ouS U 0 = (fdMI T a1).toInt64 := by rw [(e2 hn).1, (x_c hXU).2.1, hT9, en_n hn, ou_ou, va_up_self]
  refine lv_aload_n hx hb dL_law_1190 rfl (lv_at hl 5 rfl) ?_
  refine lv_iconst (v := nI 0) hx hb dL_law_1191 (by decide) ?_
  refine all hx hb hw hT 13 0 (by decide) (f := ouS U) rfl 0 (by decide) (by decide) dL_law_1192 ?_
  refine lv_iload hx hb dL_law_1193 (lv_at hl 0 rfl) ?_
  refine lv_i2l hx hb dL_law_1195 rfl ?_
  refine lc_eq (x := ouS U 0) (y := (fdMI T a1).toInt64) (tgt := 1202) hx hb dL_law_1196 dL_law_1197 (by decide) (fun _ => ?_) (fun q => absurd f9 q)
  refine lv_goto (tgt := 1510) hx hb dL_law_1202 (by decide) ?_
  exact kk U H locs ls hRU hw hS (lv_sub hl [2, 3, 4, 5, 6, 7] rfl)
set_option maxRecDepth 100000 in
set_option maxHeartbeats 1000000 in
theorem k_where {p : Program} {l : Launch} {e : Env} {s : State} {m : MethodId} {below : List Frame} {meth : Method} {c : Code} {b L : Nat} {xs : Nat → Int32} {G : Gm} (C : LC p l s m c b L xs G) {S : St} {H : Heap} {locs : List Loc} {ls : Array Slot} {cells slots i : Nat} {Q : State → Prop} (hR : Rel S S) (hw : wdM G S H s) (hS : va_S (g_A G) s.heap H locs) (hl : lv_has ls 8 (LV G b i)) (hi : i + 7 ≤ L) (hcs : cells + 3 ≤ room_1.cells ∧ slots + 18 ≤ room_1.slots)
    (kk : ∀ (S' : St) (H : Heap) (locs : List Loc) (ls : Array Slot), Rel S' S' → wdM G S' H s → va_S (g_A G) s.heap H locs → lv_has ls 8 (LV G b i) → W p l e room_1 s m #[Value.ref b] below meth c H locs (cells + 3) (slots + 18) Q (F0 m 1510 ls [])) : W p l e room_1 s m #[Value.ref b] below meth c H locs cells slots Q (F0 m 1205 ls []) := by
  obtain ⟨hx, hb, hml, hown, hts, hX, hbl, hbA, hT, hN, hl0, hL⟩ := C
  have hl : lv_has ls 8 [(0, .ref b), (1, .ref (g_ad G 0 0)), (2, .ref (g_ad G 9 0)), (3, .ref (g_ad G 13 0)), (4, .ref (g_ad G 14 0)), (5, .int (nI i))] := hl
  obtain ⟨a1, ha1⟩ : ∃ z, z = xs (i + 1) := ⟨_, rfl⟩
  obtain ⟨c9, hc5, hcn, -⟩ := hR.fc
  refine lv_aload_n hx hb dL_law_1205 rfl (lv_at hl 1 rfl) ?_
  refine lv_aload_n hx hb dL_law_1206 rfl (lv_at hl 0 rfl) ?_
  refine lv_iload hx hb dL_law_1207 (lv_at hl 5 rfl) ?_
  refine lv_iconst (v := nI 1) hx hb dL_law_1209 (by decide) ?_
  refine lv_iadd hx hb dL_law_1210 ?_
  refine top_i (y := nI (i + 1)) (nI_add i 1) ?_
  refine sld hx hb hX hbl hbA hS (i + 1) (by omega) (by omega) (v := a1) ha1.symm dL_law_1211 ?_
  refine lv_aload hx hb dL_law_1212 (lv_at hl 4 rfl) ?_
  refine cLi ⟨hx, hb, hml, hown, hts⟩ (h_where l G S hl0 a1 c9 hcn hc5 (fun z => ((r_found hR a1).2.1 z).2.2)) (vx_cwSW 3 hts gL_law_L_where rfl rfl rfl (by decide +kernel) ⟨(Nat.le_of_ble_eq_true rfl), (Nat.le_of_ble_eq_true rfl)⟩) hw hT hN hS (As := [.ref (g_ad G 0 0), .int a1, .ref (g_ad G 14 0)]) (rest := []) rfl hl.1 rfl (Nat.le_of_ble_eq_true rfl) dL_law_1214 ⟨Nat.le_trans (show cells + _ ≤ cells + 3 from Nat.add_le_add_left (Nat.le_of_ble_eq_true rfl) _) hcs.1, Nat.le_trans (show slots + _ ≤ slots + 18 from Nat.add_le_add_left (Nat.le_of_ble_eq_true rfl) _) hcs.2⟩ (fun H locs hw hS => ?_)
  refine W.widen (k := cells + 3) (n := slots + 18) (Nat.add_le_add_left (Nat.le_of_ble_eq_true rfl) _) (Nat.add_le_add_left (Nat.le_of_ble_eq_true rfl) _) ?_
  obtain ⟨T, hT9⟩ : ∃ z, z = enS (foundX S a1) S (odU S (va_up (odS S) 0 (FP.f2d (ffS S (kN a1))))) := ⟨_, rfl⟩
  rw [← hT9] at hw
  have hMT : MSt T = MSt S := by rw [hT9]; exact (M_en rfl (M_od _ _))
  have hRT : Rel S T := hR.cls hMT
  have hCT : CSt T = CSt (enS (foundX S a1) S (S)) := by rw [hT9]; exact C_enD
  obtain ⟨e1, e2, e3⟩ := r_found hRT a1
  have hCT : CSt T = CSt S := hCT.trans (by cases (foundX S a1) <;> rfl)
  obtain ⟨k9, hk9⟩ : ∃ z, z = cdX xI (foundX S a1) := ⟨_, rfl⟩
  refine top_i (y := k9) hk9.symm ?_
  refine lv_istore (lv' := [(6, .int k9), (0, .ref b), (1, .ref (g_ad G 0 0)), (2, .ref (g_ad G 9 0)), (3, .ref (g_ad G 13 0)), (4, .ref (g_ad G 14 0)), (5, .int (nI i))]) hx hb dL_law_1217 hl (by decide) rfl (fun ls hl => ?_)
  obtain ⟨c8, hc6, -, hcm⟩ := hRT.fc
  refine lv_aload_n hx hb dL_law_1219 rfl (lv_at hl 3 rfl) ?_
  refine lv_aload_n hx hb dL_law_1220 rfl (lv_at hl 1 rfl) ?_
  refine lv_iload hx hb dL_law_1221 (lv_at hl 6 rfl) ?_
  refine lv_iconst (v := nI 1) hx hb dL_law_1223 (by decide) ?_
  refine lv_iadd hx hb dL_law_1224 ?_
  refine top_i (y := nI (i + 1)) (nI_add i 1) ?_
  refine sld hx hb hX hbl hbA hS (i + 1) (by omega) (by omega) (v := a1) ha1.symm dL_law_1225 ?_
  refine cVf ⟨hx, hb, hml, hown, hts⟩ (m_where l G T c8 hcm hc6 a1) (cwV 1 hts gL_law_X4_where rfl rfl rfl (by decide +kernel) ⟨(Nat.le_of_ble_eq_true rfl), (Nat.le_of_ble_eq_true rfl)⟩) hw hT hS (rcv hw hT 9 0 (by decide) rfl rfl) (As := [.int a1]) (rest := []) rfl hl.1 rfl (Nat.le_of_ble_eq_true rfl) dL_law_1226 ⟨le_z hcs.1, le_z hcs.2⟩ (fun H locs hw hS => ?_)
  refine W.widen (k := cells + 3) (n := slots + 18) (Nat.le_refl _) (Nat.le_refl _) ?_
  obtain ⟨U, hU9⟩ : ∃ z, z = fdMS T a1 := ⟨_, rfl⟩
  rw [← hU9] at hw e1 e3
  have hXU : XSt U = XSt T := by rw [hU9]; exact X_gs _ _ _
  have hRU : Rel U U := e3.law (S := S) hCT hXU
  refine lv_fstore (lv' := [(7, .float (whMI T a1)), (6, .int k9), (0, .ref b), (1, .ref (g_ad G 0 0)), (2, .ref (g_ad G 9 0)), (3, .ref (g_ad G 13 0)), (4, .ref (g_ad G 14 0)), (5, .int (nI i))]) hx hb dL_law_1229 hl (by decide) rfl (fun ls hl => ?_)
  refine lv_aload_n hx hb dL_law_1231 rfl (lv_at hl 4 rfl) ?_
  refine cVi ⟨hx, hb, hml, hown, hts⟩ (m_thrown l G U) (cwV 0 hts gL_law_X4_thrown rfl rfl rfl (by decide +kernel) ⟨(Nat.le_of_ble_eq_true rfl), (Nat.le_of_ble_eq_true rfl)⟩) hw hT hS (rcv hw hT 9 0 (by decide) rfl rfl) (As := []) (rest := []) rfl hl.1 rfl (Nat.le_of_ble_eq_true rfl) dL_law_1232 ⟨le_z hcs.1, le_z hcs.2⟩ (fun H locs hw hS => ?_)
  refine W.widen (k := cells + 3) (n := slots + 18) (Nat.le_refl _) (Nat.le_refl _) ?_
  refine lv_iload hx hb dL_law_1235 (lv_at hl 1 rfl) ?_
  refine lv_icmp_eq (tgt := 1242) hx hb dL_law_1237 (by decide) (fun _ => ?_) (fun q => absurd (e1.trans hk9.symm) q)
  refine lv_iload hx hb dL_law_1242 (lv_at hl 1 rfl) ?_
  refine lv_if_ne (tgt := 1280) hx hb dL_law_1244 (by decide) (fun _ => ?_) (fun h0 => ?_)
  · skip
    refine lv_goto (tgt := 1510) hx hb dL_law_1280 (by decide) ?_
    exact kk U H locs ls hRU hw hS (lv_sub hl [2, 3, 4, 5, 6, 7] rfl)
  have hn := cd_z (hk9.symm.trans h0)
  have f9 : odS U 0 = FP.f2d (whMI T a1) := by rw [(e2 hn).2.1, (x_c hXU).2.2, hT9, en_n hn, od_od, va_up_self]
  have v9 : vf_n64 (FP.f2d (whMI T a1)) := by rw [(e2 hn).2.1]; exact n64 (e2 hn).2.2
  refine lv_aload hx hb dL_law_1247 (lv_at hl 6 rfl) ?_
  refine lv_iconst (v := nI 0) hx hb dL_law_1249 (by decide) ?_
  refine adl hx hb hw hT 14 0 (by decide) (f := odS U) rfl 0 (by decide) (by decide) dL_law_1250 ?_
  refine lv_fload hx hb dL_law_1251 (lv_at hl 0 rfl) ?_
  refine lv_f2d hx hb dL_law_1253 v9 ?_
  refine dc_leq (x := odS U 0) (y := FP.f2d (whMI T a1)) (tgt := 1280) hx hb dL_law_1254 dL_law_1255 (by decide) (fun _ => ?_) (fun q => absurd q (by rw [f9, deq_rf v9]; decide))
  refine lv_goto (tgt := 1510) hx hb dL_law_1280 (by decide) ?_
  exact kk U H locs ls hRU hw hS (lv_sub hl [2, 3, 4, 5, 6, 7] rfl)
set_option maxRecDepth 100000 in
set_option maxHeartbeats 1000000 in
theorem k_corner {p : Program} {l : Launch} {e : Env} {s : State} {m : MethodId} {below : List Frame} {meth : Method} {c : Code} {b L : Nat} {xs : Nat → Int32} {G : Gm} (C : LC p l s m c b L xs G) {S : St} {H : Heap} {locs : List Loc} {ls : Array Slot} {cells slots i : Nat} {Q : State → Prop} (hR : Rel S S) (hw : wdM G S H s) (hS : va_S (g_A G) s.heap H locs) (hl : lv_has ls 8 (LV G b i)) (hi : i + 7 ≤ L) (hcs : cells + 3 ≤ room_1.cells ∧ slots + 18 ≤ room_1.slots)
    (kk : ∀ (S' : St) (H : Heap) (locs : List Loc) (ls : Array Slot), Rel S' S' → wdM G S' H s → va_S (g_A G) s.heap H locs → lv_has ls 8 (LV G b i) → W p l e room_1 s m #[Value.ref b] below meth c H locs (cells + 3) (slots + 18) Q (F0 m 1510 ls [])) : W p l e room_1 s m #[Value.ref b] below meth c H locs cells slots Q (F0 m 1296 ls []) := by
  obtain ⟨hx, hb, hml, hown, hts, hX, hbl, hbA, hT, hN, hl0, hL⟩ := C
  have hl : lv_has ls 8 [(0, .ref b), (1, .ref (g_ad G 0 0)), (2, .ref (g_ad G 9 0)), (3, .ref (g_ad G 13 0)), (4, .ref (g_ad G 14 0)), (5, .int (nI i))] := hl
  obtain ⟨a1, ha1⟩ : ∃ z, z = xs (i + 1) := ⟨_, rfl⟩
  obtain ⟨a2, ha2⟩ : ∃ z, z = xs (i + 2) := ⟨_, rfl⟩
  refine lv_aload_n hx hb dL_law_1296 rfl (lv_at hl 1 rfl) ?_
  refine lv_aload_n hx hb dL_law_1297 rfl (lv_at hl 0 rfl) ?_
  refine lv_iload hx hb dL_law_1298 (lv_at hl 5 rfl) ?_
  refine lv_iconst (v := nI 1) hx hb dL_law_1300 (by decide) ?_
  refine lv_iadd hx hb dL_law_1301 ?_
  refine top_i (y := nI (i + 1)) (nI_add i 1) ?_
  refine sld hx hb hX hbl hbA hS (i + 1) (by omega) (by omega) (v := a1) ha1.symm dL_law_1302 ?_
  refine lv_aload_n hx hb dL_law_1303 rfl (lv_at hl 0 rfl) ?_
  refine lv_iload hx hb dL_law_1304 (lv_at hl 5 rfl) ?_
  refine lv_iconst (v := nI 2) hx hb dL_law_1306 (by decide) ?_
  refine lv_iadd hx hb dL_law_1307 ?_
  refine top_i (y := nI (i + 2)) (nI_add i 2) ?_
  refine sld hx hb hX hbl hbA hS (i + 2) (by omega) (by omega) (v := a2) ha2.symm dL_law_1308 ?_
  refine lv_aload hx hb dL_law_1309 (lv_at hl 4 rfl) ?_
  refine cLi ⟨hx, hb, hml, hown, hts⟩ (h_corner l G S hl0 a1 a2 (fun z => ((r_corner hR a1 a2).2.1 z).2)) (vx_cwSW 4 hts gL_law_L_corner rfl rfl rfl (by decide +kernel) ⟨(Nat.le_of_ble_eq_true rfl), (Nat.le_of_ble_eq_true rfl)⟩) hw hT hN hS (As := [.ref (g_ad G 0 0), .int a1, .int a2, .ref (g_ad G 14 0)]) (rest := []) rfl hl.1 rfl (Nat.le_of_ble_eq_true rfl) dL_law_1311 ⟨Nat.le_trans (show cells + _ ≤ cells + 3 from Nat.add_le_add_left (Nat.le_of_ble_eq_true rfl) _) hcs.1, Nat.le_trans (show slots + _ ≤ slots + 18 from Nat.add_le_add_left (Nat.le_of_ble_eq_true rfl) _) hcs.2⟩ (fun H locs hw hS => ?_)
  refine W.widen (k := cells + 3) (n := slots + 18) (Nat.add_le_add_left (Nat.le_of_ble_eq_true rfl) _) (Nat.add_le_add_left (Nat.le_of_ble_eq_true rfl) _) ?_
  obtain ⟨T, hT9⟩ : ∃ z, z = enS (orX (thereX S a1) (whX a2 (nI 12))) S (odU S (va_up (odS S) 0 (FP.f2d (cnF S a1 a2)))) := ⟨_, rfl⟩
  rw [← hT9] at hw
  have hMT : MSt T = MSt S := by rw [hT9]; exact (M_en rfl (M_od _ _))
  have hRT : Rel S T := hR.cls hMT
  have hCT : CSt T = CSt (enS (orX (thereX S a1) (whX a2 (nI 12))) S (S)) := by rw [hT9]; exact C_enD
  obtain ⟨e1, e2, e3⟩ := r_corner hRT a1 a2
  have hCT : CSt T = CSt S := hCT.trans (by cases (orX (thereX S a1) (whX a2 (nI 12))) <;> rfl)
  obtain ⟨k9, hk9⟩ : ∃ z, z = cdX xI (orX (thereX S a1) (whX a2 (nI 12))) := ⟨_, rfl⟩
  refine top_i (y := k9) hk9.symm ?_
  refine lv_istore (lv' := [(6, .int k9), (0, .ref b), (1, .ref (g_ad G 0 0)), (2, .ref (g_ad G 9 0)), (3, .ref (g_ad G 13 0)), (4, .ref (g_ad G 14 0)), (5, .int (nI i))]) hx hb dL_law_1314 hl (by decide) rfl (fun ls hl => ?_)
  refine lv_aload_n hx hb dL_law_1316 rfl (lv_at hl 3 rfl) ?_
  refine lv_aload_n hx hb dL_law_1317 rfl (lv_at hl 1 rfl) ?_
  refine lv_iload hx hb dL_law_1318 (lv_at hl 6 rfl) ?_
  refine lv_iconst (v := nI 1) hx hb dL_law_1320 (by decide) ?_
  refine lv_iadd hx hb dL_law_1321 ?_
  refine top_i (y := nI (i + 1)) (nI_add i 1) ?_
  refine sld hx hb hX hbl hbA hS (i + 1) (by omega) (by omega) (v := a1) ha1.symm dL_law_1322 ?_
  refine lv_aload_n hx hb dL_law_1323 rfl (lv_at hl 1 rfl) ?_
  refine lv_iload hx hb dL_law_1324 (lv_at hl 6 rfl) ?_
  refine lv_iconst (v := nI 2) hx hb dL_law_1326 (by decide) ?_
  refine lv_iadd hx hb dL_law_1327 ?_
  refine top_i (y := nI (i + 2)) (nI_add i 2) ?_
  refine sld hx hb hX hbl hbA hS (i + 2) (by omega) (by omega) (v := a2) ha2.symm dL_law_1328 ?_
  refine cVf ⟨hx, hb, hml, hown, hts⟩ (m_corner l G T a1 a2) (cwV 2 hts gL_law_X4_corner rfl rfl rfl (by decide +kernel) ⟨(Nat.le_of_ble_eq_true rfl), (Nat.le_of_ble_eq_true rfl)⟩) hw hT hS (rcv hw hT 9 0 (by decide) rfl rfl) (As := [.int a1, .int a2]) (rest := []) rfl hl.1 rfl (Nat.le_of_ble_eq_true rfl) dL_law_1329 ⟨le_z hcs.1, le_z hcs.2⟩ (fun H locs hw hS => ?_)
  refine W.widen (k := cells + 3) (n := slots + 18) (Nat.le_refl _) (Nat.le_refl _) ?_
  obtain ⟨U, hU9⟩ : ∃ z, z = coMS T a1 a2 := ⟨_, rfl⟩
  rw [← hU9] at hw e1 e3
  have hXU : XSt U = XSt T := by rw [hU9]; exact X_gs _ _ _
  have hRU : Rel U U := e3.law (S := S) hCT hXU
  refine lv_fstore (lv' := [(7, .float (coM T a1 a2)), (6, .int k9), (0, .ref b), (1, .ref (g_ad G 0 0)), (2, .ref (g_ad G 9 0)), (3, .ref (g_ad G 13 0)), (4, .ref (g_ad G 14 0)), (5, .int (nI i))]) hx hb dL_law_1332 hl (by decide) rfl (fun ls hl => ?_)
  refine lv_aload_n hx hb dL_law_1334 rfl (lv_at hl 4 rfl) ?_
  refine cVi ⟨hx, hb, hml, hown, hts⟩ (m_thrown l G U) (cwV 0 hts gL_law_X4_thrown rfl rfl rfl (by decide +kernel) ⟨(Nat.le_of_ble_eq_true rfl), (Nat.le_of_ble_eq_true rfl)⟩) hw hT hS (rcv hw hT 9 0 (by decide) rfl rfl) (As := []) (rest := []) rfl hl.1 rfl (Nat.le_of_ble_eq_true rfl) dL_law_1335 ⟨le_z hcs.1, le_z hcs.2⟩ (fun H locs hw hS => ?_)
  refine W.widen (k := cells + 3) (n := slots + 18) (Nat.le_refl _) (Nat.le_refl _) ?_
  refine lv_iload hx hb dL_law_1338 (lv_at hl 1 rfl) ?_
  refine lv_icmp_eq (tgt := 1345) hx hb dL_law_1340 (by decide) (fun _ => ?_) (fun q => absurd (e1.trans hk9.symm) q)
  refine lv_iload hx hb dL_law_1345 (lv_at hl 1 rfl) ?_
  refine lv_if_ne (tgt := 1383) hx hb dL_law_1347 (by decide) (fun _ => ?_) (fun h0 => ?_)
  · skip
    refine lv_goto (tgt := 1510) hx hb dL_law_1383 (by decide) ?_
    exact kk U H locs ls hRU hw hS (lv_sub hl [2, 3, 4, 5, 6, 7] rfl)
  have hn := cd_z (hk9.symm.trans h0)
  have f9 : odS U 0 = FP.f2d (coM T a1 a2) := by rw [(e2 hn).1, (x_c hXU).2.2, hT9, en_n hn, od_od, va_up_self]
  have v9 : vf_n64 (FP.f2d (coM T a1 a2)) := by rw [(e2 hn).1]; exact n64 (e2 hn).2
  refine lv_aload hx hb dL_law_1350 (lv_at hl 6 rfl) ?_
  refine lv_iconst (v := nI 0) hx hb dL_law_1352 (by decide) ?_
  refine adl hx hb hw hT 14 0 (by decide) (f := odS U) rfl 0 (by decide) (by decide) dL_law_1353 ?_
  refine lv_fload hx hb dL_law_1354 (lv_at hl 0 rfl) ?_
  refine lv_f2d hx hb dL_law_1356 v9 ?_
  refine dc_leq (x := odS U 0) (y := FP.f2d (coM T a1 a2)) (tgt := 1383) hx hb dL_law_1357 dL_law_1358 (by decide) (fun _ => ?_) (fun q => absurd q (by rw [f9, deq_rf v9]; decide))
  refine lv_goto (tgt := 1510) hx hb dL_law_1383 (by decide) ?_
  exact kk U H locs ls hRU hw hS (lv_sub hl [2, 3, 4, 5, 6, 7] rfl)
set_option maxRecDepth 100000 in
set_option maxHeartbeats 1000000 in
theorem k_about {p : Program} {l : Launch} {e : Env} {s : State} {m : MethodId} {below : List Frame} {meth : Method} {c : Code} {b L : Nat} {xs : Nat → Int32} {G : Gm} (C : LC p l s m c b L xs G) {S : St} {H : Heap} {locs : List Loc} {ls : Array Slot} {cells slots i : Nat} {Q : State → Prop} (hR : Rel S S) (hw : wdM G S H s) (hS : va_S (g_A G) s.heap H locs) (hl : lv_has ls 8 (LV G b i)) (hi : i + 7 ≤ L) (hcs : cells + 3 ≤ room_1.cells ∧ slots + 18 ≤ room_1.slots)
    (kk : ∀ (S' : St) (H : Heap) (locs : List Loc) (ls : Array Slot), Rel S' S' → wdM G S' H s → va_S (g_A G) s.heap H locs → lv_has ls 8 (LV G b i) → W p l e room_1 s m #[Value.ref b] below meth c H locs (cells + 3) (slots + 18) Q (F0 m 1510 ls [])) : W p l e room_1 s m #[Value.ref b] below meth c H locs cells slots Q (F0 m 1386 ls []) := by
  obtain ⟨hx, hb, hml, hown, hts, hX, hbl, hbA, hT, hN, hl0, hL⟩ := C
  have hl : lv_has ls 8 [(0, .ref b), (1, .ref (g_ad G 0 0)), (2, .ref (g_ad G 9 0)), (3, .ref (g_ad G 13 0)), (4, .ref (g_ad G 14 0)), (5, .int (nI i))] := hl
  obtain ⟨a1, ha1⟩ : ∃ z, z = xs (i + 1) := ⟨_, rfl⟩
  obtain ⟨a2, ha2⟩ : ∃ z, z = xs (i + 2) := ⟨_, rfl⟩
  refine lv_aload_n hx hb dL_law_1386 rfl (lv_at hl 1 rfl) ?_
  refine lv_aload_n hx hb dL_law_1387 rfl (lv_at hl 0 rfl) ?_
  refine lv_iload hx hb dL_law_1388 (lv_at hl 5 rfl) ?_
  refine lv_iconst (v := nI 1) hx hb dL_law_1390 (by decide) ?_
  refine lv_iadd hx hb dL_law_1391 ?_
  refine top_i (y := nI (i + 1)) (nI_add i 1) ?_
  refine sld hx hb hX hbl hbA hS (i + 1) (by omega) (by omega) (v := a1) ha1.symm dL_law_1392 ?_
  refine lv_aload_n hx hb dL_law_1393 rfl (lv_at hl 0 rfl) ?_
  refine lv_iload hx hb dL_law_1394 (lv_at hl 5 rfl) ?_
  refine lv_iconst (v := nI 2) hx hb dL_law_1396 (by decide) ?_
  refine lv_iadd hx hb dL_law_1397 ?_
  refine top_i (y := nI (i + 2)) (nI_add i 2) ?_
  refine sld hx hb hX hbl hbA hS (i + 2) (by omega) (by omega) (v := a2) ha2.symm dL_law_1398 ?_
  refine lv_aload_n hx hb dL_law_1399 rfl (lv_at hl 3 rfl) ?_
  refine cLi ⟨hx, hb, hml, hown, hts⟩ (h_about l G S hl0 a1 a2 hR.ip4.1 hR.ip4.2) (vx_cwSW 4 hts gL_law_L_about rfl rfl rfl (by decide +kernel) ⟨(Nat.le_of_ble_eq_true rfl), (Nat.le_of_ble_eq_true rfl)⟩) hw hT hN hS (As := [.ref (g_ad G 0 0), .int a1, .int a2, .ref (g_ad G 13 0)]) (rest := []) rfl hl.1 rfl (Nat.le_of_ble_eq_true rfl) dL_law_1400 ⟨Nat.le_trans (show cells + _ ≤ cells + 3 from Nat.add_le_add_left (Nat.le_of_ble_eq_true rfl) _) hcs.1, Nat.le_trans (show slots + _ ≤ slots + 18 from Nat.add_le_add_left (Nat.le_of_ble_eq_true rfl) _) hcs.2⟩ (fun H locs hw hS => ?_)
  refine W.widen (k := cells + 3) (n := slots + 18) (Nat.add_le_add_left (Nat.le_of_ble_eq_true rfl) _) (Nat.add_le_add_left (Nat.le_of_ble_eq_true rfl) _) ?_
  obtain ⟨T, hT9⟩ : ∃ z, z = enS (orX (thereX S a1) (whX a2 (nI 4))) S (ouU S (va_up (ouS S) 0 ((abF S a1 a2).toInt64))) := ⟨_, rfl⟩
  rw [← hT9] at hw
  have hMT : MSt T = MSt S := by rw [hT9]; exact (M_en rfl (M_ou _ _))
  have hRT : Rel S T := hR.cls hMT
  have hCT : CSt T = CSt (enS (orX (thereX S a1) (whX a2 (nI 4))) S (S)) := by rw [hT9]; exact C_en
  obtain ⟨e1, e2, e3⟩ := r_about hRT a1 a2
  have hCT : CSt T = CSt S := hCT.trans (by cases (orX (thereX S a1) (whX a2 (nI 4))) <;> rfl)
  obtain ⟨k9, hk9⟩ : ∃ z, z = cdX xI (orX (thereX S a1) (whX a2 (nI 4))) := ⟨_, rfl⟩
  refine top_i (y := k9) hk9.symm ?_
  refine lv_istore (lv' := [(6, .int k9), (0, .ref b), (1, .ref (g_ad G 0 0)), (2, .ref (g_ad G 9 0)), (3, .ref (g_ad G 13 0)), (4, .ref (g_ad G 14 0)), (5, .int (nI i))]) hx hb dL_law_1403 hl (by decide) rfl (fun ls hl => ?_)
  refine lv_aload_n hx hb dL_law_1405 rfl (lv_at hl 3 rfl) ?_
  refine lv_aload_n hx hb dL_law_1406 rfl (lv_at hl 1 rfl) ?_
  refine lv_iload hx hb dL_law_1407 (lv_at hl 6 rfl) ?_
  refine lv_iconst (v := nI 1) hx hb dL_law_1409 (by decide) ?_
  refine lv_iadd hx hb dL_law_1410 ?_
  refine top_i (y := nI (i + 1)) (nI_add i 1) ?_
  refine sld hx hb hX hbl hbA hS (i + 1) (by omega) (by omega) (v := a1) ha1.symm dL_law_1411 ?_
  refine lv_aload_n hx hb dL_law_1412 rfl (lv_at hl 1 rfl) ?_
  refine lv_iload hx hb dL_law_1413 (lv_at hl 6 rfl) ?_
  refine lv_iconst (v := nI 2) hx hb dL_law_1415 (by decide) ?_
  refine lv_iadd hx hb dL_law_1416 ?_
  refine top_i (y := nI (i + 2)) (nI_add i 2) ?_
  refine sld hx hb hX hbl hbA hS (i + 2) (by omega) (by omega) (v := a2) ha2.symm dL_law_1417 ?_
  refine cVi ⟨hx, hb, hml, hown, hts⟩ (m_about l G T a1 a2) (cwV 2 hts gL_law_X4_about rfl rfl rfl (by decide +kernel) ⟨(Nat.le_of_ble_eq_true rfl), (Nat.le_of_ble_eq_true rfl)⟩) hw hT hS (rcv hw hT 9 0 (by decide) rfl rfl) (As := [.int a1, .int a2]) (rest := []) rfl hl.1 rfl (Nat.le_of_ble_eq_true rfl) dL_law_1418 ⟨le_z hcs.1, le_z hcs.2⟩ (fun H locs hw hS => ?_)
  refine W.widen (k := cells + 3) (n := slots + 18) (Nat.le_refl _) (Nat.le_refl _) ?_
  obtain ⟨U, hU9⟩ : ∃ z, z = aoMS T a1 a2 := ⟨_, rfl⟩
  rw [← hU9] at hw e1 e3
  have hXU : XSt U = XSt T := by rw [hU9]; exact X_gs _ _ _
  have hRU : Rel U U := e3.law (S := S) hCT hXU
  refine lv_istore (lv' := [(7, .int (aoM T a1 a2)), (6, .int k9), (0, .ref b), (1, .ref (g_ad G 0 0)), (2, .ref (g_ad G 9 0)), (3, .ref (g_ad G 13 0)), (4, .ref (g_ad G 14 0)), (5, .int (nI i))]) hx hb dL_law_1421 hl (by decide) rfl (fun ls hl => ?_)
  refine lv_aload_n hx hb dL_law_1423 rfl (lv_at hl 4 rfl) ?_
  refine cVi ⟨hx, hb, hml, hown, hts⟩ (m_thrown l G U) (cwV 0 hts gL_law_X4_thrown rfl rfl rfl (by decide +kernel) ⟨(Nat.le_of_ble_eq_true rfl), (Nat.le_of_ble_eq_true rfl)⟩) hw hT hS (rcv hw hT 9 0 (by decide) rfl rfl) (As := []) (rest := []) rfl hl.1 rfl (Nat.le_of_ble_eq_true rfl) dL_law_1424 ⟨le_z hcs.1, le_z hcs.2⟩ (fun H locs hw hS => ?_)
  refine W.widen (k := cells + 3) (n := slots + 18) (Nat.le_refl _) (Nat.le_refl _) ?_
  refine lv_iload hx hb dL_law_1427 (lv_at hl 1 rfl) ?_
  refine lv_icmp_eq (tgt := 1434) hx hb dL_law_1429 (by decide) (fun _ => ?_) (fun q => absurd (e1.trans hk9.symm) q)
  refine lv_iload hx hb dL_law_1434 (lv_at hl 1 rfl) ?_
  refine lv_if_ne (tgt := 1451) hx hb dL_law_1436 (by decide) (fun _ => ?_) (fun h0 => ?_)
  · skip
    refine lv_goto (tgt := 1510) hx hb dL_law_1451 (by decide) ?_
    exact kk U H locs ls hRU hw hS (lv_sub hl [2, 3, 4, 5, 6, 7] rfl)
  have hn := cd_z (hk9.symm.trans h0)
  have f9 : ouS U 0 = (aoM T a1 a2).toInt64 := by rw [e2 hn, (x_c hXU).2.1, hT9, en_n hn, ou_ou, va_up_self]
  refine lv_aload_n hx hb dL_law_1439 rfl (lv_at hl 5 rfl) ?_
  refine lv_iconst (v := nI 0) hx hb dL_law_1440 (by decide) ?_
  refine all hx hb hw hT 13 0 (by decide) (f := ouS U) rfl 0 (by decide) (by decide) dL_law_1441 ?_
  refine lv_iload hx hb dL_law_1442 (lv_at hl 0 rfl) ?_
  refine lv_i2l hx hb dL_law_1444 rfl ?_
  refine lc_eq (x := ouS U 0) (y := (aoM T a1 a2).toInt64) (tgt := 1451) hx hb dL_law_1445 dL_law_1446 (by decide) (fun _ => ?_) (fun q => absurd f9 q)
  refine lv_goto (tgt := 1510) hx hb dL_law_1451 (by decide) ?_
  exact kk U H locs ls hRU hw hS (lv_sub hl [2, 3, 4, 5, 6, 7] rfl)
set_option maxRecDepth 100000 in
set_option maxHeartbeats 1000000 in
theorem k_count {p : Program} {l : Launch} {e : Env} {s : State} {m : MethodId} {below : List Frame} {meth : Method} {c : Code} {b L : Nat} {xs : Nat → Int32} {G : Gm} (C : LC p l s m c b L xs G) {S : St} {H : Heap} {locs : List Loc} {ls : Array Slot} {cells slots i : Nat} {Q : State → Prop} (hR : Rel S S) (hw : wdM G S H s) (hS : va_S (g_A G) s.heap H locs) (hl : lv_has ls 8 (LV G b i)) (hi : i + 7 ≤ L) (hcs : cells + 3 ≤ room_1.cells ∧ slots + 18 ≤ room_1.slots)
    (kk : ∀ (S' : St) (H : Heap) (locs : List Loc) (ls : Array Slot), Rel S' S' → wdM G S' H s → va_S (g_A G) s.heap H locs → lv_has ls 8 (LV G b i) → W p l e room_1 s m #[Value.ref b] below meth c H locs (cells + 3) (slots + 18) Q (F0 m 1510 ls [])) : W p l e room_1 s m #[Value.ref b] below meth c H locs cells slots Q (F0 m 1454 ls []) := by
  obtain ⟨hx, hb, hml, hown, hts, hX, hbl, hbA, hT, hN, hl0, hL⟩ := C
  have hl : lv_has ls 8 [(0, .ref b), (1, .ref (g_ad G 0 0)), (2, .ref (g_ad G 9 0)), (3, .ref (g_ad G 13 0)), (4, .ref (g_ad G 14 0)), (5, .int (nI i))] := hl
  obtain ⟨a1, ha1⟩ : ∃ z, z = xs (i + 1) := ⟨_, rfl⟩
  refine lv_aload_n hx hb dL_law_1454 rfl (lv_at hl 1 rfl) ?_
  refine lv_aload_n hx hb dL_law_1455 rfl (lv_at hl 0 rfl) ?_
  refine lv_iload hx hb dL_law_1456 (lv_at hl 5 rfl) ?_
  refine lv_iconst (v := nI 1) hx hb dL_law_1458 (by decide) ?_
  refine lv_iadd hx hb dL_law_1459 ?_
  refine top_i (y := nI (i + 1)) (nI_add i 1) ?_
  refine sld hx hb hX hbl hbA hS (i + 1) (by omega) (by omega) (v := a1) ha1.symm dL_law_1460 ?_
  refine lv_aload_n hx hb dL_law_1461 rfl (lv_at hl 3 rfl) ?_
  refine cLi ⟨hx, hb, hml, hown, hts⟩ (h_count l G S hl0 a1 hR.ip4.1 hR.ip4.2) (vx_cwSW 3 hts gL_law_L_count rfl rfl rfl (by decide +kernel) ⟨(Nat.le_of_ble_eq_true rfl), (Nat.le_of_ble_eq_true rfl)⟩) hw hT hN hS (As := [.ref (g_ad G 0 0), .int a1, .ref (g_ad G 13 0)]) (rest := []) rfl hl.1 rfl (Nat.le_of_ble_eq_true rfl) dL_law_1462 ⟨Nat.le_trans (show cells + _ ≤ cells + 3 from Nat.add_le_add_left (Nat.le_of_ble_eq_true rfl) _) hcs.1, Nat.le_trans (show slots + _ ≤ slots + 18 from Nat.add_le_add_left (Nat.le_of_ble_eq_true rfl) _) hcs.2⟩ (fun H locs hw hS => ?_)
  refine W.widen (k := cells + 3) (n := slots + 18) (Nat.add_le_add_left (Nat.le_of_ble_eq_true rfl) _) (Nat.add_le_add_left (Nat.le_of_ble_eq_true rfl) _) ?_
  obtain ⟨T, hT9⟩ : ∃ z, z = enS (whX a1 (nI 7)) S (ouU S (va_up (ouS S) 0 ((coF S a1).toInt64))) := ⟨_, rfl⟩
  rw [← hT9] at hw
  have hMT : MSt T = MSt S := by rw [hT9]; exact (M_en rfl (M_ou _ _))
  have hRT : Rel S T := hR.cls hMT
  have hCT : CSt T = CSt (enS (whX a1 (nI 7)) S (S)) := by rw [hT9]; exact C_en
  obtain ⟨e1, e2, e3⟩ := r_count hRT a1
  have hCT : CSt T = CSt S := hCT.trans (by cases (whX a1 (nI 7)) <;> rfl)
  obtain ⟨k9, hk9⟩ : ∃ z, z = cdX xI (whX a1 (nI 7)) := ⟨_, rfl⟩
  refine top_i (y := k9) hk9.symm ?_
  refine lv_istore (lv' := [(6, .int k9), (0, .ref b), (1, .ref (g_ad G 0 0)), (2, .ref (g_ad G 9 0)), (3, .ref (g_ad G 13 0)), (4, .ref (g_ad G 14 0)), (5, .int (nI i))]) hx hb dL_law_1465 hl (by decide) rfl (fun ls hl => ?_)
  refine lv_aload_n hx hb dL_law_1467 rfl (lv_at hl 3 rfl) ?_
  refine lv_aload_n hx hb dL_law_1468 rfl (lv_at hl 1 rfl) ?_
  refine lv_iload hx hb dL_law_1469 (lv_at hl 6 rfl) ?_
  refine lv_iconst (v := nI 1) hx hb dL_law_1471 (by decide) ?_
  refine lv_iadd hx hb dL_law_1472 ?_
  refine top_i (y := nI (i + 1)) (nI_add i 1) ?_
  refine sld hx hb hX hbl hbA hS (i + 1) (by omega) (by omega) (v := a1) ha1.symm dL_law_1473 ?_
  refine cVi ⟨hx, hb, hml, hown, hts⟩ (m_count l G T a1) (cwV 1 hts gL_law_X4_count rfl rfl rfl (by decide +kernel) ⟨(Nat.le_of_ble_eq_true rfl), (Nat.le_of_ble_eq_true rfl)⟩) hw hT hS (rcv hw hT 9 0 (by decide) rfl rfl) (As := [.int a1]) (rest := []) rfl hl.1 rfl (Nat.le_of_ble_eq_true rfl) dL_law_1474 ⟨le_z hcs.1, le_z hcs.2⟩ (fun H locs hw hS => ?_)
  refine W.widen (k := cells + 3) (n := slots + 18) (Nat.le_refl _) (Nat.le_refl _) ?_
  obtain ⟨U, hU9⟩ : ∃ z, z = cuMS T a1 := ⟨_, rfl⟩
  rw [← hU9] at hw e1 e3
  have hXU : XSt U = XSt T := by rw [hU9]; exact X_gs _ _ _
  have hRU : Rel U U := e3.law (S := S) hCT hXU
  refine lv_istore (lv' := [(7, .int (cuM T a1)), (6, .int k9), (0, .ref b), (1, .ref (g_ad G 0 0)), (2, .ref (g_ad G 9 0)), (3, .ref (g_ad G 13 0)), (4, .ref (g_ad G 14 0)), (5, .int (nI i))]) hx hb dL_law_1477 hl (by decide) rfl (fun ls hl => ?_)
  refine lv_aload_n hx hb dL_law_1479 rfl (lv_at hl 4 rfl) ?_
  refine cVi ⟨hx, hb, hml, hown, hts⟩ (m_thrown l G U) (cwV 0 hts gL_law_X4_thrown rfl rfl rfl (by decide +kernel) ⟨(Nat.le_of_ble_eq_true rfl), (Nat.le_of_ble_eq_true rfl)⟩) hw hT hS (rcv hw hT 9 0 (by decide) rfl rfl) (As := []) (rest := []) rfl hl.1 rfl (Nat.le_of_ble_eq_true rfl) dL_law_1480 ⟨le_z hcs.1, le_z hcs.2⟩ (fun H locs hw hS => ?_)
  refine W.widen (k := cells + 3) (n := slots + 18) (Nat.le_refl _) (Nat.le_refl _) ?_
  refine lv_iload hx hb dL_law_1483 (lv_at hl 1 rfl) ?_
  refine lv_icmp_eq (tgt := 1490) hx hb dL_law_1485 (by decide) (fun _ => ?_) (fun q => absurd (e1.trans hk9.symm) q)
  refine lv_iload hx hb dL_law_1490 (lv_at hl 1 rfl) ?_
  refine lv_if_ne (tgt := 1507) hx hb dL_law_1492 (by decide) (fun _ => ?_) (fun h0 => ?_)
  · skip
    refine lv_goto (tgt := 1510) hx hb dL_law_1507 (by decide) ?_
    exact kk U H locs ls hRU hw hS (lv_sub hl [2, 3, 4, 5, 6, 7] rfl)
  have hn := cd_z (hk9.symm.trans h0)
  have f9 : ouS U 0 = (cuM T a1).toInt64 := by rw [e2 hn, (x_c hXU).2.1, hT9, en_n hn, ou_ou, va_up_self]
  refine lv_aload_n hx hb dL_law_1495 rfl (lv_at hl 5 rfl) ?_
  refine lv_iconst (v := nI 0) hx hb dL_law_1496 (by decide) ?_
  refine all hx hb hw hT 13 0 (by decide) (f := ouS U) rfl 0 (by decide) (by decide) dL_law_1497 ?_
  refine lv_iload hx hb dL_law_1498 (lv_at hl 0 rfl) ?_
  refine lv_i2l hx hb dL_law_1500 rfl ?_
  refine lc_eq (x := ouS U 0) (y := (cuM T a1).toInt64) (tgt := 1507) hx hb dL_law_1501 dL_law_1502 (by decide) (fun _ => ?_) (fun q => absurd f9 q)
  refine lv_goto (tgt := 1510) hx hb dL_law_1507 (by decide) ?_
  exact kk U H locs ls hRU hw hS (lv_sub hl [2, 3, 4, 5, 6, 7] rfl)
set_option maxRecDepth 100000 in
set_option maxHeartbeats 1000000 in
theorem k_meeting {p : Program} {l : Launch} {e : Env} {s : State} {m : MethodId} {below : List Frame} {meth : Method} {c : Code} {b L : Nat} {xs : Nat → Int32} {G : Gm} (C : LC p l s m c b L xs G) {S : St} {H : Heap} {locs : List Loc} {ls : Array Slot} {cells slots i : Nat} {Q : State → Prop} (hR : Rel S S) (hw : wdM G S H s) (hS : va_S (g_A G) s.heap H locs) (hl : lv_has ls 8 (LV G b i)) (hi : i + 7 ≤ L) (hcs : cells + 3 ≤ room_1.cells ∧ slots + 18 ≤ room_1.slots)
    (kk : ∀ (S' : St) (H : Heap) (locs : List Loc) (ls : Array Slot), Rel S' S' → wdM G S' H s → va_S (g_A G) s.heap H locs → lv_has ls 8 (LV G b i) → W p l e room_1 s m #[Value.ref b] below meth c H locs (cells + 3) (slots + 18) Q (F0 m 1510 ls [])) : W p l e room_1 s m #[Value.ref b] below meth c H locs cells slots Q (F0 m 1124 ls []) := by
  obtain ⟨hx, hb, hml, hown, hts, hX, hbl, hbA, hT, hN, hl0, hL⟩ := C
  have hl : lv_has ls 8 [(0, .ref b), (1, .ref (g_ad G 0 0)), (2, .ref (g_ad G 9 0)), (3, .ref (g_ad G 13 0)), (4, .ref (g_ad G 14 0)), (5, .int (nI i))] := hl
  obtain ⟨a1, ha1⟩ : ∃ z, z = xs (i + 1) := ⟨_, rfl⟩
  refine lv_aload_n hx hb dL_law_1124 rfl (lv_at hl 1 rfl) ?_
  refine lv_aload_n hx hb dL_law_1125 rfl (lv_at hl 0 rfl) ?_
  refine lv_iload hx hb dL_law_1126 (lv_at hl 5 rfl) ?_
  refine lv_iconst (v := nI 1) hx hb dL_law_1128 (by decide) ?_
  refine lv_iadd hx hb dL_law_1129 ?_
  refine top_i (y := nI (i + 1)) (nI_add i 1) ?_
  refine sld hx hb hX hbl hbA hS (i + 1) (by omega) (by omega) (v := a1) ha1.symm dL_law_1130 ?_
  refine cVi ⟨hx, hb, hml, hown, hts⟩ (c_meeting l G S hR.1.2 hR.wbS a1) (cwV 1 hts gL_law_X3_meeting rfl rfl rfl (by decide +kernel) ⟨(Nat.le_of_ble_eq_true rfl), (Nat.le_of_ble_eq_true rfl)⟩) hw hT hS (rcv hw hT 0 0 (by decide) rfl rfl) (As := [.int a1]) (rest := []) rfl hl.1 rfl (Nat.le_of_ble_eq_true rfl) dL_law_1131 ⟨Nat.le_trans (show cells + _ ≤ cells + 3 from Nat.add_le_add_left (Nat.le_of_ble_eq_true rfl) _) hcs.1, Nat.le_trans (show slots + _ ≤ slots + 18 from Nat.add_le_add_left (Nat.le_of_ble_eq_true rfl) _) hcs.2⟩ (fun H locs hw hS => ?_)
  refine W.widen (k := cells) (n := slots) (Nat.le_refl _) (Nat.le_refl _) ?_
  obtain ⟨T, hT9⟩ : ∃ z, z = meR a1 512 0 (fzS S) 0 := ⟨_, rfl⟩
  rw [← hT9] at hw
  refine top_i (y := nfS T 2) (by rw [hT9]) ?_
  have hMT : MSt T = MSt S := by rw [hT9]; exact (M_me _ _ _ _ _).trans (M_fz _)
  have hRT : Rel S T := hR.cls hMT
  obtain ⟨e1, e3⟩ := r_meeting hRT a1
  refine lv_aload_n hx hb dL_law_1134 rfl (lv_at hl 2 rfl) ?_
  refine lv_aload_n hx hb dL_law_1135 rfl (lv_at hl 0 rfl) ?_
  refine lv_iload hx hb dL_law_1136 (lv_at hl 5 rfl) ?_
  refine lv_iconst (v := nI 1) hx hb dL_law_1138 (by decide) ?_
  refine lv_iadd hx hb dL_law_1139 ?_
  refine top_i (y := nI (i + 1)) (nI_add i 1) ?_
  refine sld hx hb hX hbl hbA hS (i + 1) (by omega) (by omega) (v := a1) ha1.symm dL_law_1140 ?_
  refine cVi ⟨hx, hb, hml, hown, hts⟩ (m_meeting l G T (fun b hb => r_nN hRT hb) a1) (cwV 1 hts gL_law_X4_meeting rfl rfl rfl (by decide +kernel) ⟨(Nat.le_of_ble_eq_true rfl), (Nat.le_of_ble_eq_true rfl)⟩) hw hT hS (rcv hw hT 9 0 (by decide) rfl rfl) (As := [.int a1]) (rest := [.int (nfS T 2)]) rfl hl.1 rfl (Nat.le_of_ble_eq_true rfl) dL_law_1141 ⟨Nat.le_trans (show cells + _ ≤ cells + 3 from Nat.add_le_add_left (Nat.le_of_ble_eq_true rfl) _) hcs.1, Nat.le_trans (show slots + _ ≤ slots + 18 from Nat.add_le_add_left (Nat.le_of_ble_eq_true rfl) _) hcs.2⟩ (fun H locs hw hS => ?_)
  refine W.widen (k := cells) (n := slots) (Nat.le_refl _) (Nat.le_refl _) ?_
  obtain ⟨U, hU9⟩ : ∃ z, z = meM a1 512 0 (fzM (nrMS T)) 0 := ⟨_, rfl⟩
  rw [← hU9] at hw e1 e3
  refine top_i (y := mnS U 2) (by rw [hU9]) ?_
  have hXU : XSt U = XSt T := by rw [hU9]; exact X_me _ _
  rw [← hT9] at e1 e3
  have hRU : Rel U U := e3.law (S := S) rfl hXU
  refine lv_icmp_eq (tgt := 1510) hx hb dL_law_1144 (by decide) (fun _ => ?_) (fun q => absurd e1.symm q)
  refine W.widen (k := cells + 3) (n := slots + 18) (Nat.le_add_right _ _) (Nat.le_add_right _ _) ?_
  exact kk U H locs ls hRU hw hS (lv_sub hl [0, 1, 2, 3, 4, 5] rfl)
set_option maxRecDepth 100000 in
set_option maxHeartbeats 1000000 in
theorem k_nearest {p : Program} {l : Launch} {e : Env} {s : State} {m : MethodId} {below : List Frame} {meth : Method} {c : Code} {b L : Nat} {xs : Nat → Int32} {G : Gm} (C : LC p l s m c b L xs G) {S : St} {H : Heap} {locs : List Loc} {ls : Array Slot} {cells slots i : Nat} {Q : State → Prop} (hR : Rel S S) (hw : wdM G S H s) (hS : va_S (g_A G) s.heap H locs) (hl : lv_has ls 8 (LV G b i)) (hi : i + 7 ≤ L) (hcs : cells + 3 ≤ room_1.cells ∧ slots + 18 ≤ room_1.slots)
    (kk : ∀ (S' : St) (H : Heap) (locs : List Loc) (ls : Array Slot), Rel S' S' → wdM G S' H s → va_S (g_A G) s.heap H locs → lv_has ls 8 (LV G b i) → W p l e room_1 s m #[Value.ref b] below meth c H locs (cells + 3) (slots + 18) Q (F0 m 1510 ls [])) : W p l e room_1 s m #[Value.ref b] below meth c H locs cells slots Q (F0 m 1283 ls []) := by
  obtain ⟨hx, hb, hml, hown, hts, hX, hbl, hbA, hT, hN, hl0, hL⟩ := C
  have hl : lv_has ls 8 [(0, .ref b), (1, .ref (g_ad G 0 0)), (2, .ref (g_ad G 9 0)), (3, .ref (g_ad G 13 0)), (4, .ref (g_ad G 14 0)), (5, .int (nI i))] := hl
  obtain ⟨c9, hc5, hcn, hcm⟩ := hR.fc
  refine lv_aload_n hx hb dL_law_1283 rfl (lv_at hl 1 rfl) ?_
  refine cVi ⟨hx, hb, hml, hown, hts⟩ (c_nearest l G S c9 hcn hc5) (cwV 0 hts gL_law_X3_nearest rfl rfl rfl (by decide +kernel) ⟨(Nat.le_of_ble_eq_true rfl), (Nat.le_of_ble_eq_true rfl)⟩) hw hT hS (rcv hw hT 0 0 (by decide) rfl rfl) (As := []) (rest := []) rfl hl.1 rfl (Nat.le_of_ble_eq_true rfl) dL_law_1284 ⟨Nat.le_trans (show cells + _ ≤ cells + 3 from Nat.add_le_add_left (Nat.le_of_ble_eq_true rfl) _) hcs.1, Nat.le_trans (show slots + _ ≤ slots + 18 from Nat.add_le_add_left (Nat.le_of_ble_eq_true rfl) _) hcs.2⟩ (fun H locs hw hS => ?_)
  refine W.widen (k := cells) (n := slots) (Nat.le_refl _) (Nat.le_refl _) ?_
  refine lv_aload_n hx hb dL_law_1287 rfl (lv_at hl 2 rfl) ?_
  obtain ⟨e1, e3⟩ := r_nearest hR hc5 hcn
  refine cVi ⟨hx, hb, hml, hown, hts⟩ (m_nearest l G S c9 hcm hc5) (cwV 0 hts gL_law_X4_nearest rfl rfl rfl (by decide +kernel) ⟨(Nat.le_of_ble_eq_true rfl), (Nat.le_of_ble_eq_true rfl)⟩) hw hT hS (rcv hw hT 9 0 (by decide) rfl rfl) (As := []) (rest := [.int (nrF S c9)]) rfl hl.1 rfl (Nat.le_of_ble_eq_true rfl) dL_law_1288 ⟨Nat.le_trans (show cells + _ ≤ cells + 3 from Nat.add_le_add_left (Nat.le_of_ble_eq_true rfl) _) hcs.1, Nat.le_trans (show slots + _ ≤ slots + 18 from Nat.add_le_add_left (Nat.le_of_ble_eq_true rfl) _) hcs.2⟩ (fun H locs hw hS => ?_)
  refine W.widen (k := cells) (n := slots) (Nat.le_refl _) (Nat.le_refl _) ?_
  have hRU : Rel (nrMS S) (nrMS S) := e3.law (S := S) (T := S) rfl (X_nr S)
  refine lv_icmp_eq (tgt := 1510) hx hb dL_law_1291 (by decide) (fun _ => ?_) (fun q => absurd e1.symm q)
  refine W.widen (k := cells + 3) (n := slots + 18) (Nat.le_add_right _ _) (Nat.le_add_right _ _) ?_
  exact kk (nrMS S) H locs ls hRU hw hS (lv_sub hl [0, 1, 2, 3, 4, 5] rfl)
