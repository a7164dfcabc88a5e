/-! All is made: what the cells hold -/
set_option maxRecDepth 100000 in
set_option maxHeartbeats 1000000 in
theorem all_born {X Y1 Y2 : Dw} {q0 q9 q13 q14 : Nat} (h0 : ∀ a b, dd X a b = false) (h1 : pfP (dN X q0 0 0 pf0) Y1) (h2 : moP (dN Y1 q9 9 0 mo0) Y2) : born (dN (dN Y2 q13 13 0 (ou0 Y2)) q14 14 0 (od0 Y2)) := by
  obtain ⟨kd, f9, f10, f13, f14⟩ := born_dd (q13 := q13) (q14 := q14) h0 h1 h2
  have g1 : Gr Y1 (dN Y1 q9 9 0 mo0) none2 (one2 9 0) := Gr.new f9
  have g3 : Gr Y2 (dN Y2 q13 13 0 (ou0 Y2)) none2 (one2 13 0) := Gr.new f13
  have g4 : Gr (dN Y2 q13 13 0 (ou0 Y2)) (dN (dN Y2 q13 13 0 (ou0 Y2)) q14 14 0 (od0 Y2)) none2 (one2 14 0) := Gr.new f14
  have c13 : dc (dN Y2 q13 13 0 (ou0 Y2)) 13 0 = ou0 Y2 := dN_c
  have d13 : dd (dN Y2 q13 13 0 (ou0 Y2)) 13 0 = true := dN_d
  have c14 : dc (dN (dN Y2 q13 13 0 (ou0 Y2)) q14 14 0 (od0 Y2)) 14 0 = od0 Y2 := dN_c
  refine ⟨kd, ?_⟩
  clear kd
  have c13 := ((g4.2.1 13 0 d13).2 (fun z => z)).trans c13
  generalize hV : dN (dN Y2 q13 13 0 (ou0 Y2)) q14 14 0 (od0 Y2) = V at g4 c14 c13 ⊢
  have gB : Gr Y2 V none2 (fun a b => one2 13 0 a b ∨ one2 14 0 a b) := (g3.trans g4).mono (fun a b _ h => h.elim id id) (fun _ _ => Iff.rfl)
  obtain ⟨m1, mc, m10_0, m12_0, m12_1, m11_0, m11_1, m10_1, m10_2, m11_2, m11_3, m11_4, m11_5, m11_6, m10_3, m10_4⟩ := h2
  have gA := ((g1.trans m1).trans gB).mono (E' := one2 9 0) (fun a b _ h => h.elim (fun h => h.elim False.elim id) False.elim) (fun _ _ => Iff.rfl)
  have ex : dG (dN Y1 q9 9 0 mo0) = gN (dG Y1) q9 9 0 := rfl
  have cyA : g_cy (dG V) = g_cy (dG Y1) := gA.1.2.1
  have cyB : g_cy (dG V) = g_cy (dG Y2) := gB.1.2.1
  have cyM : g_cy (dG (dN Y1 q9 9 0 mo0)) = g_cy (dG V) := g1.1.2.1.trans cyA.symm
  obtain ⟨p1, pc, b0, b1, s0, s1, s2, s3, r7, r8, bo, f, r3, hf⟩ := h1
  have cyP : g_cy (dG (dN X q0 0 0 pf0)) = g_cy (dG V) := p1.1.2.1.symm.trans cyA.symm
  have d0 : dd Y1 0 0 = true := (p1.2.2 0 0).mpr (Or.inl dN_d)
  have d9 : dd Y2 9 0 = true := (m1.2.2 9 0).mpr (Or.inl dN_d)
  have e1_0 := (gA.2.1 1 0 b0.1).1
  have e1_1 := (gA.2.1 1 1 b1.1).1
  have e5_0 := (gA.2.1 5 0 s0.1).1
  have e5_1 := (gA.2.1 5 1 s1.1).1
  have e5_2 := (gA.2.1 5 2 s2.1).1
  have e5_3 := (gA.2.1 5 3 s3.1).1
  have e3_0 := (gA.2.1 3 0 r3.1).1
  have e7_0 := (gA.2.1 7 0 r7.1).1
  have e8_0 := (gA.2.1 8 0 r8.1).1
  have c0 := ((gA.2.1 0 0 d0).2 (fun z => absurd z.1 (by decide))).trans pc
  rw [← e1_0, ← e1_1, ← e5_0, ← e5_1, ← e5_2, ← e5_3, ← e3_0, ← e7_0, ← e8_0] at c0
  have em10_0 := (gB.2.1 10 0 m10_0.1).1
  have em12_0 := (gB.2.1 12 0 m12_0.1).1
  have em12_1 := (gB.2.1 12 1 m12_1.1).1
  have em11_0 := (gB.2.1 11 0 m11_0.1).1
  have em11_1 := (gB.2.1 11 1 m11_1.1).1
  have em10_1 := (gB.2.1 10 1 m10_1.1).1
  have em10_2 := (gB.2.1 10 2 m10_2.1).1
  have em11_2 := (gB.2.1 11 2 m11_2.1).1
  have em11_3 := (gB.2.1 11 3 m11_3.1).1
  have em11_4 := (gB.2.1 11 4 m11_4.1).1
  have em11_5 := (gB.2.1 11 5 m11_5.1).1
  have em11_6 := (gB.2.1 11 6 m11_6.1).1
  have em10_3 := (gB.2.1 10 3 m10_3.1).1
  have em10_4 := (gB.2.1 10 4 m10_4.1).1
  have c9 := ((gB.2.1 9 0 d9).2 (fun z => z)).trans mc
  rw [← em10_0, ← em12_0, ← em12_1, ← em11_0, ← em11_1, ← em10_1, ← em10_2, ← em11_2, ← em11_3, ← em11_4, ← em11_5, ← em11_6, ← em10_3, ← em10_4] at c9
  have s0 := s0.keep gA (fun z => absurd z.1 (by decide)) (fun z => absurd z.1 (by decide))
  have s1 := s1.keep gA (fun z => absurd z.1 (by decide)) (fun z => absurd z.1 (by decide))
  have s2 := s2.keep gA (fun z => absurd z.1 (by decide)) (fun z => absurd z.1 (by decide))
  have s3 := s3.keep gA (fun z => absurd z.1 (by decide)) (fun z => absurd z.1 (by decide))
  have b0 := b0.keep gA (fun z => absurd z.1 (by decide)) (fun z => absurd z.1 (by decide))
  have b1 := b1.keep gA (fun z => absurd z.1 (by decide)) (fun z => absurd z.1 (by decide))
  have hf : ∀ b, b < 512 → f b = some (g_ad (dG V) 4 b) := fun b hb => (hf b hb).trans (congrArg some (gA.2.1 4 b (bo b hb).1).1.symm)
  have bo : ∀ k, k < 512 → boR V k := fun k hk => (bo k hk).keep gA (fun z => absurd z.1 (by decide)) (fun _ => (fun z => absurd z.1 (by decide))) (fun _ => (fun z => absurd z.1 (by decide)))
  have r3 := (r3.keep gA (fun z => absurd z.1 (by decide))).2
  have r7 := (r7.keep gA (fun z => absurd z.1 (by decide))).2
  have r8 := (r8.keep gA (fun z => absurd z.1 (by decide))).2
  rw [cyP] at r3 r7 r8
  have m10_0 := (m10_0.keep gB (fun z => z)).2
  have m12_0 := (m12_0.keep gB (fun z => z)).2
  have m12_1 := (m12_1.keep gB (fun z => z)).2
  have m11_0 := (m11_0.keep gB (fun z => z)).2
  have m11_1 := (m11_1.keep gB (fun z => z)).2
  have m10_1 := (m10_1.keep gB (fun z => z)).2
  have m10_2 := (m10_2.keep gB (fun z => z)).2
  have m11_2 := (m11_2.keep gB (fun z => z)).2
  have m11_3 := (m11_3.keep gB (fun z => z)).2
  have m11_4 := (m11_4.keep gB (fun z => z)).2
  have m11_5 := (m11_5.keep gB (fun z => z)).2
  have m11_6 := (m11_6.keep gB (fun z => z)).2
  have m10_3 := (m10_3.keep gB (fun z => z)).2
  have m10_4 := (m10_4.keep gB (fun z => z)).2
  rw [cyM] at m10_0 m12_0 m12_1 m11_0 m11_1 m10_1 m10_2 m11_2 m11_3 m11_4 m11_5 m11_6 m10_3 m10_4
  have bx : ∀ j, j < 1026 → bxR V j := fun j hj => by
    rcases Nat.lt_or_ge j 2 with q | q
    · rcases (show j = 0 ∨ j = 1 by omega) with rfl | rfl
      · exact b0
      · exact b1
    · rcases (show j = 2 * (j / 2 - 1) + 2 ∨ j = 2 * (j / 2 - 1) + 3 by omega) with q2 | q2
      · rw [q2]; exact (bo (j / 2 - 1) (by omega)).2.2.1
      · rw [q2]; exact (bo (j / 2 - 1) (by omega)).2.2.2
  have ps : ∀ j, j < 4 → psR V j := fun j hj => by
    rcases (show j = 0 ∨ j = 1 ∨ j = 2 ∨ j = 3 by omega) with rfl | rfl | rfl | rfl
    · exact s0
    · exact s1
    · exact s2
    · exact s3
  intro i j hj
  match i, hj with
  | 0, hj =>
    obtain rfl : j = 0 := by have : j < 1 := hj; omega
    exact Or.inl c0
  | 1, hj => exact Or.inl (bx j hj).2.2.1
  | 2, hj => exact Or.inl (bx j hj).2.2.2
  | 3, hj =>
    obtain rfl : j = 0 := by have : j < 1 := hj; omega
    exact Or.inr ⟨rfl, f, r3, hf⟩
  | 4, hj => exact Or.inl (bo j hj).2.1
  | 5, hj => exact Or.inl (ps j hj).2.2.1
  | 6, hj => exact Or.inl (ps j hj).2.2.2
  | 7, hj =>
    obtain rfl : j = 0 := by have : j < 1 := hj; omega
    exact Or.inl r7
  | 8, hj =>
    obtain rfl : j = 0 := by have : j < 1 := hj; omega
    exact Or.inl r8
  | 9, hj =>
    obtain rfl : j = 0 := by have : j < 1 := hj; omega
    exact Or.inl c9
  | 10, hj =>
    have hj : j < 5 := hj
    rcases (show j = 0 ∨ j = 1 ∨ j = 2 ∨ j = 3 ∨ j = 4 by omega) with rfl | rfl | rfl | rfl | rfl
    · exact Or.inl m10_0
    · exact Or.inl m10_1
    · exact Or.inl m10_2
    · exact Or.inl m10_3
    · exact Or.inl m10_4
  | 11, hj =>
    have hj : j < 7 := hj
    rcases (show j = 0 ∨ j = 1 ∨ j = 2 ∨ j = 3 ∨ j = 4 ∨ j = 5 ∨ j = 6 by omega) with rfl | rfl | rfl | rfl | rfl | rfl | rfl
    · exact Or.inl m11_0
    · exact Or.inl m11_1
    · exact Or.inl m11_2
    · exact Or.inl m11_3
    · exact Or.inl m11_4
    · exact Or.inl m11_5
    · exact Or.inl m11_6
  | 12, hj =>
    have hj : j < 2 := hj
    rcases (show j = 0 ∨ j = 1 by omega) with rfl | rfl
    · exact Or.inl m12_0
    · exact Or.inl m12_1
  | 13, hj =>
    obtain rfl : j = 0 := by have : j < 1 := hj; omega
    refine Or.inl (c13.trans ?_)
    unfold ou0
    rw [← cyB]
    rfl
  | 14, hj =>
    obtain rfl : j = 0 := by have : j < 1 := hj; omega
    refine Or.inl (c14.trans ?_)
    unfold od0
    rw [← cyB]
    rfl
  | n + 15, hj => exact absurd (show j < 0 from hj) (Nat.not_lt_zero _)
