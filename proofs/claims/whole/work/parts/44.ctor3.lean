/-! Constructor of the model -/
def arR (X Y : Dw) (i j : Nat) (t : Nat) (a : vp_A) : Prop := dd Y i j = true ∧ dc Y i j = .inl (g_cy (dG X) t, a)
theorem arR.keep {X0 X Y : Dw} {E N : Nat → Nat → Prop} {i j t : Nat} {a : vp_A} (h : arR X0 X i j t a) (g : Gr X Y E N) (h1 : ¬ E i j) : arR X0 Y i j t a := ⟨(g.2.2 _ _).mpr (Or.inl h.1), ((g.2.1 i j h.1).2 h1).trans h.2⟩
theorem va_SA {A A' : Nat → Prop} {H0 H : Heap} {locs : List Loc} (h : A' = A) (hS : va_S A H0 H locs) : va_S A' H0 H locs := by rw [h]; exact hS
theorem ad_keep {X Y : Dw} {E N : Nat → Nat → Prop} {i j q : Nat} (h : q = g_ad (dG X) i j) (hd : dd X i j = true) (g : Gr X Y E N) : q = g_ad (dG Y) i j := h.trans (g.2.1 i j hd).1.symm
def moN (a b : Nat) : Prop := ((((((((((((((False) ∨ (a = 10 ∧ b = 0)) ∨ (a = 12 ∧ b = 0)) ∨ (a = 12 ∧ b = 1)) ∨ (a = 11 ∧ b = 0)) ∨ (a = 11 ∧ b = 1)) ∨ (a = 10 ∧ b = 1)) ∨ (a = 10 ∧ b = 2)) ∨ (a = 11 ∧ b = 2)) ∨ (a = 11 ∧ b = 3)) ∨ (a = 11 ∧ b = 4)) ∨ (a = 11 ∧ b = 5)) ∨ (a = 11 ∧ b = 6)) ∨ (a = 10 ∧ b = 3)) ∨ (a = 10 ∧ b = 4)
def moP (X Y : Dw) : Prop := Gr X Y (one2 9 0) moN ∧ dc Y 9 0 = .inr (4, [.int 0, .ref (g_ad (dG Y) 10 0), .ref (g_ad (dG Y) 12 0), .ref (g_ad (dG Y) 12 1), .ref (g_ad (dG Y) 11 0), .ref (g_ad (dG Y) 11 1), .ref (g_ad (dG Y) 10 1), .ref (g_ad (dG Y) 10 2), .ref (g_ad (dG Y) 11 2), .ref (g_ad (dG Y) 11 3), .ref (g_ad (dG Y) 11 4), .ref (g_ad (dG Y) 11 5), .int 0, .int 0, .ref (g_ad (dG Y) 11 6), .ref (g_ad (dG Y) 10 3), .ref (g_ad (dG Y) 10 4)]) ∧ arR X Y 10 0 0 (6, .inr (.inr (.inl (fun _ => 0)))) ∧ arR X Y 12 0 3 (512, .inl (fun _ => 0)) ∧ arR X Y 12 1 3 (512, .inl (fun _ => 0)) ∧ arR X Y 11 0 1 (512, .inl (fun _ => 0)) ∧ arR X Y 11 1 1 (512, .inl (fun _ => 0)) ∧ arR X Y 10 1 0 (3072, .inr (.inr (.inl (fun _ => 0)))) ∧ arR X Y 10 2 0 (3072, .inr (.inr (.inl (fun _ => 0)))) ∧ arR X Y 11 2 1 (8192, .inl (fun _ => 0)) ∧ arR X Y 11 3 1 (8192, .inl (fun _ => 0)) ∧ arR X Y 11 4 1 (8192, .inl (fun _ => 0)) ∧ arR X Y 11 5 1 (8192, .inl (fun _ => 0)) ∧ arR X Y 11 6 1 (512, .inl (fun _ => 0)) ∧ arR X Y 10 3 0 (512, .inr (.inr (.inl (fun _ => 0)))) ∧ arR X Y 10 4 0 (6, .inr (.inr (.inl (fun _ => 0))))
set_option maxRecDepth 100000 in
set_option maxHeartbeats 1000000 in
theorem c_modI (l : Launch) (X : Dw) (hd : dd X 9 0 = true) (hc : dc X 9 0 = .inr (4, [.int 0, .null, .null, .null, .null, .null, .null, .null, .null, .null, .null, .null, .int 0, .int 0, .null, .null, .null])) (hfr : ∀ a b, 10 ≤ a → a ≤ 12 → dd X a b = false) : PN l yX4_init wsX4_init ({ frames := 1, cells := 14, slots := 41996, locals := 12 } : Room) [.ref (g_ad (dG X) 9 0)] X (moP X) := by
  refine entN (cc := cX4_init) (maxL := 1) (ret := none) (by decide) rfl (Nat.le_of_ble_eq_true rfl) ?_
  intro p e s m below meth c ls C hnm hw hI hS hl
  obtain ⟨hx, hb, hr, hml, hown, hts, hlk⟩ := C
  have hl : lv_has ls 1 [(0, .ref (g_ad (dG X) 9 0))] := hl
  refine lv_aload_n hx hb dX4_init_0 rfl (lv_at hl 0 rfl) ?_
  refine obN hx hb hml hown hts (List.mem_of_getElem? (i := 1) rfl) (List.mem_of_getElem? (i := 2) rfl) (List.mem_of_getElem? (i := 3) rfl) hl.1 dX4_init_1 (Nat.le_of_ble_eq_true rfl) (Nat.le_of_ble_eq_true rfl) ?_
  have G0 : Gr X X (one2 9 0) (fun a b => False) := (Gr.refl X).mono (fun _ _ _ h => h.elim) (fun _ _ => Iff.rfl)
  have I0 := hI
  have a0 : g_ad (dG X) 9 0 = g_ad (dG X) 9 0 := rfl
  have d0 := hd
  have c0 := hc
  refine lv_aload_n hx hb dX4_init_4 rfl (lv_at hl 0 rfl) ?_
  refine lv_bipush (v := nI 6) hx hb dX4_init_5 (by decide) ?_
  have fz : dd X 10 0 = false := ne_f (fun z => by
    rcases (G0.2.2 10 0).mp z with y | y
    · rw [hfr 10 _ (by decide) (by decide)] at y; cases y
    · exact absurd y (by decide))
  refine nAr (ty := .float) (a0 := (6, .inr (.inr (.inl (fun _ => 0))))) (N' := 6) hx hb hts (List.mem_of_getElem? (i := 4) rfl) rfl hw I0.1 hS 10 0 0 rfl ra_f fz (fun _ => rfl) (by decide) (by decide) (by decide) (Nat.le_of_ble_eq_true rfl) (Nat.le_of_ble_eq_true rfl) dX4_init_7 (fun q10_0 H hw hS => ?_)
  have gz : Gr X (dN X q10_0 10 0 (.inl (g_cy (dG X) 0, 6, .inr (.inr (.inl (fun _ => 0)))))) none2 (one2 10 0) := Gr.new fz
  have eq10_0 : q10_0 = g_ad (dG (dN X q10_0 10 0 (.inl (g_cy (dG X) 0, 6, .inr (.inr (.inl (fun _ => 0))))))) 10 0 := dN_a.symm
  have rq10_0 : arR X (dN X q10_0 10 0 (.inl (g_cy (dG X) 0, 6, .inr (.inr (.inl (fun _ => 0)))))) 10 0 0 (6, .inr (.inr (.inl (fun _ => 0)))) := ⟨dN_d, by rw [dN_c, G0.1.2.1]⟩
  obtain ⟨Z, hZ⟩ : ∃ z, z = dN X q10_0 10 0 (.inl (g_cy (dG X) 0, 6, .inr (.inr (.inl (fun _ => 0))))) := ⟨_, rfl⟩
  rw [← hZ] at hw gz eq10_0 rq10_0
  have dz := (gz.2.2 9 0).mpr (Or.inl d0)
  have cz := ((gz.2.1 9 0 d0).2 (fun z => z)).trans c0
  have az := ad_keep a0 d0 gz
  have Iz := I0.gr gz
  have hS := va_SA gz.1.1 hS
  refine pfN (X := Z) (ci := 4) (fs := [.int 0, .null, .null, .null, .null, .null, .null, .null, .null, .null, .null, .null, .int 0, .int 0, .null, .null, .null]) hx hb hown hts hw Iz.1 hS 9 0 dz cz rfl (fun _ h => List.mem_cons_of_mem _ (List.mem_append_right _ h)) tyX4 tyX4_ok nmX4 1 (by decide) (List.mem_of_getElem? (i := 5) rfl) (Or.inr ⟨hnm, rfl⟩) (ty := .array .float) (by decide +kernel) rfl rfl (Nat.le_of_ble_eq_true rfl) az dX4_init_9 (fun H locs hw hS => ?_)
  have gp : Gr Z (dP Z 9 0 (.inr (4, [.int 0, .ref q10_0, .null, .null, .null, .null, .null, .null, .null, .null, .null, .null, .int 0, .int 0, .null, .null, .null]))) (one2 9 0) none2 := Gr.put
  have c1 : dc (dP Z 9 0 (.inr (4, [.int 0, .ref q10_0, .null, .null, .null, .null, .null, .null, .null, .null, .null, .null, .int 0, .int 0, .null, .null, .null]))) 9 0 = .inr (4, [.int 0, .ref q10_0, .null, .null, .null, .null, .null, .null, .null, .null, .null, .null, .int 0, .int 0, .null, .null, .null]) := dP_c
  have hw : dwM (dP Z 9 0 (.inr (4, [.int 0, .ref q10_0, .null, .null, .null, .null, .null, .null, .null, .null, .null, .null, .int 0, .int 0, .null, .null, .null]))) H s := hw
  obtain ⟨Y1, hY1⟩ : ∃ z, z = dP Z 9 0 (.inr (4, [.int 0, .ref q10_0, .null, .null, .null, .null, .null, .null, .null, .null, .null, .null, .int 0, .int 0, .null, .null, .null])) := ⟨_, rfl⟩
  rw [← hY1] at hw gp c1
  have g1 : Gr X Y1 (one2 9 0) (fun a b => (a = 10 ∧ b = 0)) := (gz.trans gp).mono (fun a b _ h => h.elim False.elim id) (fun a b => (by constructor <;> intro h <;> (try simp only [none2, one2, bxN, psN, or_false, false_or] at h ⊢) <;> omega))
  have G1 : Gr X Y1 (one2 9 0) (fun a b => (False) ∨ (a = 10 ∧ b = 0)) := (G0.trans g1).mono (fun a b _ h => h.elim id id) (fun _ _ => Iff.rfl)
  have d1 := (g1.2.2 9 0).mpr (Or.inl d0)
  have a1 := ad_keep a0 d0 g1
  have I1 := I0.gr g1
  have hS := va_SA gp.1.1 hS
  have eq10_0 := ad_keep eq10_0 rq10_0.1 gp
  have rq10_0 := rq10_0.keep gp (fun z => absurd z.1 (by decide))
  refine lv_aload_n hx hb dX4_init_12 rfl (lv_at hl 0 rfl) ?_
  refine lv_sipush (v := nI 512) hx hb dX4_init_13 (by decide) ?_
  have fz : dd Y1 12 0 = false := ne_f (fun z => by
    rcases (G1.2.2 12 0).mp z with y | y
    · rw [hfr 12 _ (by decide) (by decide)] at y; cases y
    · exact absurd y (by decide))
  refine nAr (ty := .boolean) (a0 := (512, .inl (fun _ => 0))) (N' := 512) hx hb hts (List.mem_of_getElem? (i := 6) rfl) rfl hw I1.1 hS 12 0 3 rfl ra_z fz (fun _ => rfl) (by decide) (by decide) (by decide) (Nat.le_of_ble_eq_true rfl) (Nat.le_of_ble_eq_true rfl) dX4_init_16 (fun q12_0 H hw hS => ?_)
  have gz : Gr Y1 (dN Y1 q12_0 12 0 (.inl (g_cy (dG Y1) 3, 512, .inl (fun _ => 0)))) none2 (one2 12 0) := Gr.new fz
  have eq12_0 : q12_0 = g_ad (dG (dN Y1 q12_0 12 0 (.inl (g_cy (dG Y1) 3, 512, .inl (fun _ => 0))))) 12 0 := dN_a.symm
  have rq12_0 : arR X (dN Y1 q12_0 12 0 (.inl (g_cy (dG Y1) 3, 512, .inl (fun _ => 0)))) 12 0 3 (512, .inl (fun _ => 0)) := ⟨dN_d, by rw [dN_c, G1.1.2.1]⟩
  obtain ⟨Z, hZ⟩ : ∃ z, z = dN Y1 q12_0 12 0 (.inl (g_cy (dG Y1) 3, 512, .inl (fun _ => 0))) := ⟨_, rfl⟩
  rw [← hZ] at hw gz eq12_0 rq12_0
  have dz := (gz.2.2 9 0).mpr (Or.inl d1)
  have cz := ((gz.2.1 9 0 d1).2 (fun z => z)).trans c1
  have az := ad_keep a1 d1 gz
  have Iz := I1.gr gz
  have hS := va_SA gz.1.1 hS
  refine pfN (X := Z) (ci := 4) (fs := [.int 0, .ref q10_0, .null, .null, .null, .null, .null, .null, .null, .null, .null, .null, .int 0, .int 0, .null, .null, .null]) hx hb hown hts hw Iz.1 hS 9 0 dz cz rfl (fun _ h => List.mem_cons_of_mem _ (List.mem_append_right _ h)) tyX4 tyX4_ok nmX4 2 (by decide) (List.mem_of_getElem? (i := 7) rfl) (Or.inr ⟨hnm, rfl⟩) (ty := .array .boolean) (by decide +kernel) rfl rfl (Nat.le_of_ble_eq_true rfl) az dX4_init_18 (fun H locs hw hS => ?_)
  have gp : Gr Z (dP Z 9 0 (.inr (4, [.int 0, .ref q10_0, .ref q12_0, .null, .null, .null, .null, .null, .null, .null, .null, .null, .int 0, .int 0, .null, .null, .null]))) (one2 9 0) none2 := Gr.put
  have c2 : dc (dP Z 9 0 (.inr (4, [.int 0, .ref q10_0, .ref q12_0, .null, .null, .null, .null, .null, .null, .null, .null, .null, .int 0, .int 0, .null, .null, .null]))) 9 0 = .inr (4, [.int 0, .ref q10_0, .ref q12_0, .null, .null, .null, .null, .null, .null, .null, .null, .null, .int 0, .int 0, .null, .null, .null]) := dP_c
  have hw : dwM (dP Z 9 0 (.inr (4, [.int 0, .ref q10_0, .ref q12_0, .null, .null, .null, .null, .null, .null, .null, .null, .null, .int 0, .int 0, .null, .null, .null]))) H s := hw
  obtain ⟨Y2, hY2⟩ : ∃ z, z = dP Z 9 0 (.inr (4, [.int 0, .ref q10_0, .ref q12_0, .null, .null, .null, .null, .null, .null, .null, .null, .null, .int 0, .int 0, .null, .null, .null])) := ⟨_, rfl⟩
  rw [← hY2] at hw gp c2
  have g2 : Gr Y1 Y2 (one2 9 0) (fun a b => (a = 12 ∧ b = 0)) := (gz.trans gp).mono (fun a b _ h => h.elim False.elim id) (fun a b => (by constructor <;> intro h <;> (try simp only [none2, one2, bxN, psN, or_false, false_or] at h ⊢) <;> omega))
  have G2 : Gr X Y2 (one2 9 0) (fun a b => ((False) ∨ (a = 10 ∧ b = 0)) ∨ (a = 12 ∧ b = 0)) := (G1.trans g2).mono (fun a b _ h => h.elim id id) (fun _ _ => Iff.rfl)
  have d2 := (g2.2.2 9 0).mpr (Or.inl d1)
  have a2 := ad_keep a1 d1 g2
  have I2 := I1.gr g2
  have hS := va_SA gp.1.1 hS
  have eq10_0 := ad_keep eq10_0 rq10_0.1 g2
  have rq10_0 := rq10_0.keep g2 (fun z => absurd z.1 (by decide))
  have eq12_0 := ad_keep eq12_0 rq12_0.1 gp
  have rq12_0 := rq12_0.keep gp (fun z => absurd z.1 (by decide))
  refine lv_aload_n hx hb dX4_init_21 rfl (lv_at hl 0 rfl) ?_
  refine lv_sipush (v := nI 512) hx hb dX4_init_22 (by decide) ?_
  have fz : dd Y2 12 1 = false := ne_f (fun z => by
    rcases (G2.2.2 12 1).mp z with y | y
    · rw [hfr 12 _ (by decide) (by decide)] at y; cases y
    · exact absurd y (by decide))
  refine nAr (ty := .boolean) (a0 := (512, .inl (fun _ => 0))) (N' := 512) hx hb hts (List.mem_of_getElem? (i := 6) rfl) rfl hw I2.1 hS 12 1 3 rfl ra_z fz (fun _ => rfl) (by decide) (by decide) (by decide) (Nat.le_of_ble_eq_true rfl) (Nat.le_of_ble_eq_true rfl) dX4_init_25 (fun q12_1 H hw hS => ?_)
  have gz : Gr Y2 (dN Y2 q12_1 12 1 (.inl (g_cy (dG Y2) 3, 512, .inl (fun _ => 0)))) none2 (one2 12 1) := Gr.new fz
  have eq12_1 : q12_1 = g_ad (dG (dN Y2 q12_1 12 1 (.inl (g_cy (dG Y2) 3, 512, .inl (fun _ => 0))))) 12 1 := dN_a.symm
  have rq12_1 : arR X (dN Y2 q12_1 12 1 (.inl (g_cy (dG Y2) 3, 512, .inl (fun _ => 0)))) 12 1 3 (512, .inl (fun _ => 0)) := ⟨dN_d, by rw [dN_c, G2.1.2.1]⟩
  obtain ⟨Z, hZ⟩ : ∃ z, z = dN Y2 q12_1 12 1 (.inl (g_cy (dG Y2) 3, 512, .inl (fun _ => 0))) := ⟨_, rfl⟩
  rw [← hZ] at hw gz eq12_1 rq12_1
  have dz := (gz.2.2 9 0).mpr (Or.inl d2)
  have cz := ((gz.2.1 9 0 d2).2 (fun z => z)).trans c2
  have az := ad_keep a2 d2 gz
  have Iz := I2.gr gz
  have hS := va_SA gz.1.1 hS
  refine pfN (X := Z) (ci := 4) (fs := [.int 0, .ref q10_0, .ref q12_0, .null, .null, .null, .null, .null, .null, .null, .null, .null, .int 0, .int 0, .null, .null, .null]) hx hb hown hts hw Iz.1 hS 9 0 dz cz rfl (fun _ h => List.mem_cons_of_mem _ (List.mem_append_right _ h)) tyX4 tyX4_ok nmX4 3 (by decide) (List.mem_of_getElem? (i := 8) rfl) (Or.inr ⟨hnm, rfl⟩) (ty := .array .boolean) (by decide +kernel) rfl rfl (Nat.le_of_ble_eq_true rfl) az dX4_init_27 (fun H locs hw hS => ?_)
  have gp : Gr Z (dP Z 9 0 (.inr (4, [.int 0, .ref q10_0, .ref q12_0, .ref q12_1, .null, .null, .null, .null, .null, .null, .null, .null, .int 0, .int 0, .null, .null, .null]))) (one2 9 0) none2 := Gr.put
  have c3 : dc (dP Z 9 0 (.inr (4, [.int 0, .ref q10_0, .ref q12_0, .ref q12_1, .null, .null, .null, .null, .null, .null, .null, .null, .int 0, .int 0, .null, .null, .null]))) 9 0 = .inr (4, [.int 0, .ref q10_0, .ref q12_0, .ref q12_1, .null, .null, .null, .null, .null, .null, .null, .null, .int 0, .int 0, .null, .null, .null]) := dP_c
  have hw : dwM (dP Z 9 0 (.inr (4, [.int 0, .ref q10_0, .ref q12_0, .ref q12_1, .null, .null, .null, .null, .null, .null, .null, .null, .int 0, .int 0, .null, .null, .null]))) H s := hw
  obtain ⟨Y3, hY3⟩ : ∃ z, z = dP Z 9 0 (.inr (4, [.int 0, .ref q10_0, .ref q12_0, .ref q12_1, .null, .null, .null, .null, .null, .null, .null, .null, .int 0, .int 0, .null, .null, .null])) := ⟨_, rfl⟩
  rw [← hY3] at hw gp c3
  have g3 : Gr Y2 Y3 (one2 9 0) (fun a b => (a = 12 ∧ b = 1)) := (gz.trans gp).mono (fun a b _ h => h.elim False.elim id) (fun a b => (by constructor <;> intro h <;> (try simp only [none2, one2, bxN, psN, or_false, false_or] at h ⊢) <;> omega))
  have G3 : Gr X Y3 (one2 9 0) (fun a b => (((False) ∨ (a = 10 ∧ b = 0)) ∨ (a = 12 ∧ b = 0)) ∨ (a = 12 ∧ b = 1)) := (G2.trans g3).mono (fun a b _ h => h.elim id id) (fun _ _ => Iff.rfl)
  have d3 := (g3.2.2 9 0).mpr (Or.inl d2)
  have a3 := ad_keep a2 d2 g3
  have I3 := I2.gr g3
  have hS := va_SA gp.1.1 hS
  have eq10_0 := ad_keep eq10_0 rq10_0.1 g3
  have eq12_0 := ad_keep eq12_0 rq12_0.1 g3
  have rq10_0 := rq10_0.keep g3 (fun z => absurd z.1 (by decide))
  have rq12_0 := rq12_0.keep g3 (fun z => absurd z.1 (by decide))
  have eq12_1 := ad_keep eq12_1 rq12_1.1 gp
  have rq12_1 := rq12_1.keep gp (fun z => absurd z.1 (by decide))
  refine lv_aload_n hx hb dX4_init_30 rfl (lv_at hl 0 rfl) ?_
  refine lv_sipush (v := nI 512) hx hb dX4_init_31 (by decide) ?_
  have fz : dd Y3 11 0 = false := ne_f (fun z => by
    rcases (G3.2.2 11 0).mp z with y | y
    · rw [hfr 11 _ (by decide) (by decide)] at y; cases y
    · exact absurd y (by decide))
  refine nAr (ty := .int) (a0 := (512, .inl (fun _ => 0))) (N' := 512) hx hb hts (List.mem_of_getElem? (i := 9) rfl) rfl hw I3.1 hS 11 0 1 rfl ra_i fz (fun _ => rfl) (by decide) (by decide) (by decide) (Nat.le_of_ble_eq_true rfl) (Nat.le_of_ble_eq_true rfl) dX4_init_34 (fun q11_0 H hw hS => ?_)
  have gz : Gr Y3 (dN Y3 q11_0 11 0 (.inl (g_cy (dG Y3) 1, 512, .inl (fun _ => 0)))) none2 (one2 11 0) := Gr.new fz
  have eq11_0 : q11_0 = g_ad (dG (dN Y3 q11_0 11 0 (.inl (g_cy (dG Y3) 1, 512, .inl (fun _ => 0))))) 11 0 := dN_a.symm
  have rq11_0 : arR X (dN Y3 q11_0 11 0 (.inl (g_cy (dG Y3) 1, 512, .inl (fun _ => 0)))) 11 0 1 (512, .inl (fun _ => 0)) := ⟨dN_d, by rw [dN_c, G3.1.2.1]⟩
  obtain ⟨Z, hZ⟩ : ∃ z, z = dN Y3 q11_0 11 0 (.inl (g_cy (dG Y3) 1, 512, .inl (fun _ => 0))) := ⟨_, rfl⟩
  rw [← hZ] at hw gz eq11_0 rq11_0
  have dz := (gz.2.2 9 0).mpr (Or.inl d3)
  have cz := ((gz.2.1 9 0 d3).2 (fun z => z)).trans c3
  have az := ad_keep a3 d3 gz
  have Iz := I3.gr gz
  have hS := va_SA gz.1.1 hS
  refine pfN (X := Z) (ci := 4) (fs := [.int 0, .ref q10_0, .ref q12_0, .ref q12_1, .null, .null, .null, .null, .null, .null, .null, .null, .int 0, .int 0, .null, .null, .null]) hx hb hown hts hw Iz.1 hS 9 0 dz cz rfl (fun _ h => List.mem_cons_of_mem _ (List.mem_append_right _ h)) tyX4 tyX4_ok nmX4 4 (by decide) (List.mem_of_getElem? (i := 10) rfl) (Or.inr ⟨hnm, rfl⟩) (ty := .array .int) (by decide +kernel) rfl rfl (Nat.le_of_ble_eq_true rfl) az dX4_init_36 (fun H locs hw hS => ?_)
  have gp : Gr Z (dP Z 9 0 (.inr (4, [.int 0, .ref q10_0, .ref q12_0, .ref q12_1, .ref q11_0, .null, .null, .null, .null, .null, .null, .null, .int 0, .int 0, .null, .null, .null]))) (one2 9 0) none2 := Gr.put
  have c4 : dc (dP Z 9 0 (.inr (4, [.int 0, .ref q10_0, .ref q12_0, .ref q12_1, .ref q11_0, .null, .null, .null, .null, .null, .null, .null, .int 0, .int 0, .null, .null, .null]))) 9 0 = .inr (4, [.int 0, .ref q10_0, .ref q12_0, .ref q12_1, .ref q11_0, .null, .null, .null, .null, .null, .null, .null, .int 0, .int 0, .null, .null, .null]) := dP_c
  have hw : dwM (dP Z 9 0 (.inr (4, [.int 0, .ref q10_0, .ref q12_0, .ref q12_1, .ref q11_0, .null, .null, .null, .null, .null, .null, .null, .int 0, .int 0, .null, .null, .null]))) H s := hw
  obtain ⟨Y4, hY4⟩ : ∃ z, z = dP Z 9 0 (.inr (4, [.int 0, .ref q10_0, .ref q12_0, .ref q12_1, .ref q11_0, .null, .null, .null, .null, .null, .null, .null, .int 0, .int 0, .null, .null, .null])) := ⟨_, rfl⟩
  rw [← hY4] at hw gp c4
  have g4 : Gr Y3 Y4 (one2 9 0) (fun a b => (a = 11 ∧ b = 0)) := (gz.trans gp).mono (fun a b _ h => h.elim False.elim id) (fun a b => (by constructor <;> intro h <;> (try simp only [none2, one2, bxN, psN, or_false, false_or] at h ⊢) <;> omega))
  have G4 : Gr X Y4 (one2 9 0) (fun a b => ((((False) ∨ (a = 10 ∧ b = 0)) ∨ (a = 12 ∧ b = 0)) ∨ (a = 12 ∧ b = 1)) ∨ (a = 11 ∧ b = 0)) := (G3.trans g4).mono (fun a b _ h => h.elim id id) (fun _ _ => Iff.rfl)
  have d4 := (g4.2.2 9 0).mpr (Or.inl d3)
  have a4 := ad_keep a3 d3 g4
  have I4 := I3.gr g4
  have hS := va_SA gp.1.1 hS
  have eq10_0 := ad_keep eq10_0 rq10_0.1 g4
  have eq12_0 := ad_keep eq12_0 rq12_0.1 g4
  have eq12_1 := ad_keep eq12_1 rq12_1.1 g4
  have rq10_0 := rq10_0.keep g4 (fun z => absurd z.1 (by decide))
  have rq12_0 := rq12_0.keep g4 (fun z => absurd z.1 (by decide))
  have rq12_1 := rq12_1.keep g4 (fun z => absurd z.1 (by decide))
  have eq11_0 := ad_keep eq11_0 rq11_0.1 gp
  have rq11_0 := rq11_0.keep gp (fun z => absurd z.1 (by decide))
  refine lv_aload_n hx hb dX4_init_39 rfl (lv_at hl 0 rfl) ?_
  refine lv_sipush (v := nI 512) hx hb dX4_init_40 (by decide) ?_
  have fz : dd Y4 11 1 = false := ne_f (fun z => by
    rcases (G4.2.2 11 1).mp z with y | y
    · rw [hfr 11 _ (by decide) (by decide)] at y; cases y
    · exact absurd y (by decide))
  refine nAr (ty := .int) (a0 := (512, .inl (fun _ => 0))) (N' := 512) hx hb hts (List.mem_of_getElem? (i := 9) rfl) rfl hw I4.1 hS 11 1 1 rfl ra_i fz (fun _ => rfl) (by decide) (by decide) (by decide) (Nat.le_of_ble_eq_true rfl) (Nat.le_of_ble_eq_true rfl) dX4_init_43 (fun q11_1 H hw hS => ?_)
  have gz : Gr Y4 (dN Y4 q11_1 11 1 (.inl (g_cy (dG Y4) 1, 512, .inl (fun _ => 0)))) none2 (one2 11 1) := Gr.new fz
  have eq11_1 : q11_1 = g_ad (dG (dN Y4 q11_1 11 1 (.inl (g_cy (dG Y4) 1, 512, .inl (fun _ => 0))))) 11 1 := dN_a.symm
  have rq11_1 : arR X (dN Y4 q11_1 11 1 (.inl (g_cy (dG Y4) 1, 512, .inl (fun _ => 0)))) 11 1 1 (512, .inl (fun _ => 0)) := ⟨dN_d, by rw [dN_c, G4.1.2.1]⟩
  obtain ⟨Z, hZ⟩ : ∃ z, z = dN Y4 q11_1 11 1 (.inl (g_cy (dG Y4) 1, 512, .inl (fun _ => 0))) := ⟨_, rfl⟩
  rw [← hZ] at hw gz eq11_1 rq11_1
  have dz := (gz.2.2 9 0).mpr (Or.inl d4)
  have cz := ((gz.2.1 9 0 d4).2 (fun z => z)).trans c4
  have az := ad_keep a4 d4 gz
  have Iz := I4.gr gz
  have hS := va_SA gz.1.1 hS
  refine pfN (X := Z) (ci := 4) (fs := [.int 0, .ref q10_0, .ref q12_0, .ref q12_1, .ref q11_0, .null, .null, .null, .null, .null, .null, .null, .int 0, .int 0, .null, .null, .null]) hx hb hown hts hw Iz.1 hS 9 0 dz cz rfl (fun _ h => List.mem_cons_of_mem _ (List.mem_append_right _ h)) tyX4 tyX4_ok nmX4 5 (by decide) (List.mem_of_getElem? (i := 11) rfl) (Or.inr ⟨hnm, rfl⟩) (ty := .array .int) (by decide +kernel) rfl rfl (Nat.le_of_ble_eq_true rfl) az dX4_init_45 (fun H locs hw hS => ?_)
  have gp : Gr Z (dP Z 9 0 (.inr (4, [.int 0, .ref q10_0, .ref q12_0, .ref q12_1, .ref q11_0, .ref q11_1, .null, .null, .null, .null, .null, .null, .int 0, .int 0, .null, .null, .null]))) (one2 9 0) none2 := Gr.put
  have c5 : dc (dP Z 9 0 (.inr (4, [.int 0, .ref q10_0, .ref q12_0, .ref q12_1, .ref q11_0, .ref q11_1, .null, .null, .null, .null, .null, .null, .int 0, .int 0, .null, .null, .null]))) 9 0 = .inr (4, [.int 0, .ref q10_0, .ref q12_0, .ref q12_1, .ref q11_0, .ref q11_1, .null, .null, .null, .null, .null, .null, .int 0, .int 0, .null, .null, .null]) := dP_c
  have hw : dwM (dP Z 9 0 (.inr (4, [.int 0, .ref q10_0, .ref q12_0, .ref q12_1, .ref q11_0, .ref q11_1, .null, .null, .null, .null, .null, .null, .int 0, .int 0, .null, .null, .null]))) H s := hw
  obtain ⟨Y5, hY5⟩ : ∃ z, z = dP Z 9 0 (.inr (4, [.int 0, .ref q10_0, .ref q12_0, .ref q12_1, .ref q11_0, .ref q11_1, .null, .null, .null, .null, .null, .null, .int 0, .int 0, .null, .null, .null])) := ⟨_, rfl⟩
  rw [← hY5] at hw gp c5
  have g5 : Gr Y4 Y5 (one2 9 0) (fun a b => (a = 11 ∧ b = 1)) := (gz.trans gp).mono (fun a b _ h => h.elim False.elim id) (fun a b => (by constructor <;> intro h <;> (try simp only [none2, one2, bxN, psN, or_false, false_or] at h ⊢) <;> omega))
  have G5 : Gr X Y5 (one2 9 0) (fun a b => (((((False) ∨ (a = 10 ∧ b = 0)) ∨ (a = 12 ∧ b = 0)) ∨ (a = 12 ∧ b = 1)) ∨ (a = 11 ∧ b = 0)) ∨ (a = 11 ∧ b = 1)) := (G4.trans g5).mono (fun a b _ h => h.elim id id) (fun _ _ => Iff.rfl)
  have d5 := (g5.2.2 9 0).mpr (Or.inl d4)
  have a5 := ad_keep a4 d4 g5
  have I5 := I4.gr g5
  have hS := va_SA gp.1.1 hS
  have eq10_0 := ad_keep eq10_0 rq10_0.1 g5
  have eq12_0 := ad_keep eq12_0 rq12_0.1 g5
  have eq12_1 := ad_keep eq12_1 rq12_1.1 g5
  have eq11_0 := ad_keep eq11_0 rq11_0.1 g5
  have rq10_0 := rq10_0.keep g5 (fun z => absurd z.1 (by decide))
  have rq12_0 := rq12_0.keep g5 (fun z => absurd z.1 (by decide))
  have rq12_1 := rq12_1.keep g5 (fun z => absurd z.1 (by decide))
  have rq11_0 := rq11_0.keep g5 (fun z => absurd z.1 (by decide))
  have eq11_1 := ad_keep eq11_1 rq11_1.1 gp
  have rq11_1 := rq11_1.keep gp (fun z => absurd z.1 (by decide))
  refine lv_aload_n hx hb dX4_init_48 rfl (lv_at hl 0 rfl) ?_
  refine lv_sipush (v := nI 3072) hx hb dX4_init_49 (by decide) ?_
  have fz : dd Y5 10 1 = false := ne_f (fun z => by
    rcases (G5.2.2 10 1).mp z with y | y
    · rw [hfr 10 _ (by decide) (by decide)] at y; cases y
    · exact absurd y (by decide))
  refine nAr (ty := .float) (a0 := (3072, .inr (.inr (.inl (fun _ => 0))))) (N' := 3072) hx hb hts (List.mem_of_getElem? (i := 4) rfl) rfl hw I5.1 hS 10 1 0 rfl ra_f fz (fun _ => rfl) (by decide) (by decide) (by decide) (Nat.le_of_ble_eq_true rfl) (Nat.le_of_ble_eq_true rfl) dX4_init_52 (fun q10_1 H hw hS => ?_)
  have gz : Gr Y5 (dN Y5 q10_1 10 1 (.inl (g_cy (dG Y5) 0, 3072, .inr (.inr (.inl (fun _ => 0)))))) none2 (one2 10 1) := Gr.new fz
  have eq10_1 : q10_1 = g_ad (dG (dN Y5 q10_1 10 1 (.inl (g_cy (dG Y5) 0, 3072, .inr (.inr (.inl (fun _ => 0))))))) 10 1 := dN_a.symm
  have rq10_1 : arR X (dN Y5 q10_1 10 1 (.inl (g_cy (dG Y5) 0, 3072, .inr (.inr (.inl (fun _ => 0)))))) 10 1 0 (3072, .inr (.inr (.inl (fun _ => 0)))) := ⟨dN_d, by rw [dN_c, G5.1.2.1]⟩
  obtain ⟨Z, hZ⟩ : ∃ z, z = dN Y5 q10_1 10 1 (.inl (g_cy (dG Y5) 0, 3072, .inr (.inr (.inl (fun _ => 0))))) := ⟨_, rfl⟩
  rw [← hZ] at hw gz eq10_1 rq10_1
  have dz := (gz.2.2 9 0).mpr (Or.inl d5)
  have cz := ((gz.2.1 9 0 d5).2 (fun z => z)).trans c5
  have az := ad_keep a5 d5 gz
  have Iz := I5.gr gz
  have hS := va_SA gz.1.1 hS
  refine pfN (X := Z) (ci := 4) (fs := [.int 0, .ref q10_0, .ref q12_0, .ref q12_1, .ref q11_0, .ref q11_1, .null, .null, .null, .null, .null, .null, .int 0, .int 0, .null, .null, .null]) hx hb hown hts hw Iz.1 hS 9 0 dz cz rfl (fun _ h => List.mem_cons_of_mem _ (List.mem_append_right _ h)) tyX4 tyX4_ok nmX4 6 (by decide) (List.mem_of_getElem? (i := 12) rfl) (Or.inr ⟨hnm, rfl⟩) (ty := .array .float) (by decide +kernel) rfl rfl (Nat.le_of_ble_eq_true rfl) az dX4_init_54 (fun H locs hw hS => ?_)
  have gp : Gr Z (dP Z 9 0 (.inr (4, [.int 0, .ref q10_0, .ref q12_0, .ref q12_1, .ref q11_0, .ref q11_1, .ref q10_1, .null, .null, .null, .null, .null, .int 0, .int 0, .null, .null, .null]))) (one2 9 0) none2 := Gr.put
  have c6 : dc (dP Z 9 0 (.inr (4, [.int 0, .ref q10_0, .ref q12_0, .ref q12_1, .ref q11_0, .ref q11_1, .ref q10_1, .null, .null, .null, .null, .null, .int 0, .int 0, .null, .null, .null]))) 9 0 = .inr (4, [.int 0, .ref q10_0, .ref q12_0, .ref q12_1, .ref q11_0, .ref q11_1, .ref q10_1, .null, .null, .null, .null, .null, .int 0, .int 0, .null, .null, .null]) := dP_c
  have hw : dwM (dP Z 9 0 (.inr (4, [.int 0, .ref q10_0, .ref q12_0, .ref q12_1, .ref q11_0, .ref q11_1, .ref q10_1, .null, .null, .null, .null, .null, .int 0, .int 0, .null, .null, .null]))) H s := hw
  obtain ⟨Y6, hY6⟩ : ∃ z, z = dP Z 9 0 (.inr (4, [.int 0, .ref q10_0, .ref q12_0, .ref q12_1, .ref q11_0, .ref q11_1, .ref q10_1, .null, .null, .null, .null, .null, .int 0, .int 0, .null, .null, .null])) := ⟨_, rfl⟩
  rw [← hY6] at hw gp c6
  have g6 : Gr Y5 Y6 (one2 9 0) (fun a b => (a = 10 ∧ b = 1)) := (gz.trans gp).mono (fun a b _ h => h.elim False.elim id) (fun a b => (by constructor <;> intro h <;> (try simp only [none2, one2, bxN, psN, or_false, false_or] at h ⊢) <;> omega))
  have G6 : Gr X Y6 (one2 9 0) (fun a b => ((((((False) ∨ (a = 10 ∧ b = 0)) ∨ (a = 12 ∧ b = 0)) ∨ (a = 12 ∧ b = 1)) ∨ (a = 11 ∧ b = 0)) ∨ (a = 11 ∧ b = 1)) ∨ (a = 10 ∧ b = 1)) := (G5.trans g6).mono (fun a b _ h => h.elim id id) (fun _ _ => Iff.rfl)
  have d6 := (g6.2.2 9 0).mpr (Or.inl d5)
  have a6 := ad_keep a5 d5 g6
  have I6 := I5.gr g6
  have hS := va_SA gp.1.1 hS
  have eq10_0 := ad_keep eq10_0 rq10_0.1 g6
  have eq12_0 := ad_keep eq12_0 rq12_0.1 g6
  have eq12_1 := ad_keep eq12_1 rq12_1.1 g6
  have eq11_0 := ad_keep eq11_0 rq11_0.1 g6
  have eq11_1 := ad_keep eq11_1 rq11_1.1 g6
  have rq10_0 := rq10_0.keep g6 (fun z => absurd z.1 (by decide))
  have rq12_0 := rq12_0.keep g6 (fun z => absurd z.1 (by decide))
  have rq12_1 := rq12_1.keep g6 (fun z => absurd z.1 (by decide))
  have rq11_0 := rq11_0.keep g6 (fun z => absurd z.1 (by decide))
  have rq11_1 := rq11_1.keep g6 (fun z => absurd z.1 (by decide))
  have eq10_1 := ad_keep eq10_1 rq10_1.1 gp
  have rq10_1 := rq10_1.keep gp (fun z => absurd z.1 (by decide))
  refine lv_aload_n hx hb dX4_init_57 rfl (lv_at hl 0 rfl) ?_
  refine lv_sipush (v := nI 3072) hx hb dX4_init_58 (by decide) ?_
  have fz : dd Y6 10 2 = false := ne_f (fun z => by
    rcases (G6.2.2 10 2).mp z with y | y
    · rw [hfr 10 _ (by decide) (by decide)] at y; cases y
    · exact absurd y (by decide))
  refine nAr (ty := .float) (a0 := (3072, .inr (.inr (.inl (fun _ => 0))))) (N' := 3072) hx hb hts (List.mem_of_getElem? (i := 4) rfl) rfl hw I6.1 hS 10 2 0 rfl ra_f fz (fun _ => rfl) (by decide) (by decide) (by decide) (Nat.le_of_ble_eq_true rfl) (Nat.le_of_ble_eq_true rfl) dX4_init_61 (fun q10_2 H hw hS => ?_)
  have gz : Gr Y6 (dN Y6 q10_2 10 2 (.inl (g_cy (dG Y6) 0, 3072, .inr (.inr (.inl (fun _ => 0)))))) none2 (one2 10 2) := Gr.new fz
  have eq10_2 : q10_2 = g_ad (dG (dN Y6 q10_2 10 2 (.inl (g_cy (dG Y6) 0, 3072, .inr (.inr (.inl (fun _ => 0))))))) 10 2 := dN_a.symm
  have rq10_2 : arR X (dN Y6 q10_2 10 2 (.inl (g_cy (dG Y6) 0, 3072, .inr (.inr (.inl (fun _ => 0)))))) 10 2 0 (3072, .inr (.inr (.inl (fun _ => 0)))) := ⟨dN_d, by rw [dN_c, G6.1.2.1]⟩
  obtain ⟨Z, hZ⟩ : ∃ z, z = dN Y6 q10_2 10 2 (.inl (g_cy (dG Y6) 0, 3072, .inr (.inr (.inl (fun _ => 0))))) := ⟨_, rfl⟩
  rw [← hZ] at hw gz eq10_2 rq10_2
  have dz := (gz.2.2 9 0).mpr (Or.inl d6)
  have cz := ((gz.2.1 9 0 d6).2 (fun z => z)).trans c6
  have az := ad_keep a6 d6 gz
  have Iz := I6.gr gz
  have hS := va_SA gz.1.1 hS
  refine pfN (X := Z) (ci := 4) (fs := [.int 0, .ref q10_0, .ref q12_0, .ref q12_1, .ref q11_0, .ref q11_1, .ref q10_1, .null, .null, .null, .null, .null, .int 0, .int 0, .null, .null, .null]) hx hb hown hts hw Iz.1 hS 9 0 dz cz rfl (fun _ h => List.mem_cons_of_mem _ (List.mem_append_right _ h)) tyX4 tyX4_ok nmX4 7 (by decide) (List.mem_of_getElem? (i := 13) rfl) (Or.inr ⟨hnm, rfl⟩) (ty := .array .float) (by decide +kernel) rfl rfl (Nat.le_of_ble_eq_true rfl) az dX4_init_63 (fun H locs hw hS => ?_)
  have gp : Gr Z (dP Z 9 0 (.inr (4, [.int 0, .ref q10_0, .ref q12_0, .ref q12_1, .ref q11_0, .ref q11_1, .ref q10_1, .ref q10_2, .null, .null, .null, .null, .int 0, .int 0, .null, .null, .null]))) (one2 9 0) none2 := Gr.put
  have c7 : dc (dP Z 9 0 (.inr (4, [.int 0, .ref q10_0, .ref q12_0, .ref q12_1, .ref q11_0, .ref q11_1, .ref q10_1, .ref q10_2, .null, .null, .null, .null, .int 0, .int 0, .null, .null, .null]))) 9 0 = .inr (4, [.int 0, .ref q10_0, .ref q12_0, .ref q12_1, .ref q11_0, .ref q11_1, .ref q10_1, .ref q10_2, .null, .null, .null, .null, .int 0, .int 0, .null, .null, .null]) := dP_c
  have hw : dwM (dP Z 9 0 (.inr (4, [.int 0, .ref q10_0, .ref q12_0, .ref q12_1, .ref q11_0, .ref q11_1, .ref q10_1, .ref q10_2, .null, .null, .null, .null, .int 0, .int 0, .null, .null, .null]))) H s := hw
  obtain ⟨Y7, hY7⟩ : ∃ z, z = dP Z 9 0 (.inr (4, [.int 0, .ref q10_0, .ref q12_0, .ref q12_1, .ref q11_0, .ref q11_1, .ref q10_1, .ref q10_2, .null, .null, .null, .null, .int 0, .int 0, .null, .null, .null])) := ⟨_, rfl⟩
  rw [← hY7] at hw gp c7
  have g7 : Gr Y6 Y7 (one2 9 0) (fun a b => (a = 10 ∧ b = 2)) := (gz.trans gp).mono (fun a b _ h => h.elim False.elim id) (fun a b => (by constructor <;> intro h <;> (try simp only [none2, one2, bxN, psN, or_false, false_or] at h ⊢) <;> omega))
  have G7 : Gr X Y7 (one2 9 0) (fun a b => (((((((False) ∨ (a = 10 ∧ b = 0)) ∨ (a = 12 ∧ b = 0)) ∨ (a = 12 ∧ b = 1)) ∨ (a = 11 ∧ b = 0)) ∨ (a = 11 ∧ b = 1)) ∨ (a = 10 ∧ b = 1)) ∨ (a = 10 ∧ b = 2)) := (G6.trans g7).mono (fun a b _ h => h.elim id id) (fun _ _ => Iff.rfl)
  have d7 := (g7.2.2 9 0).mpr (Or.inl d6)
  have a7 := ad_keep a6 d6 g7
  have I7 := I6.gr g7
  have hS := va_SA gp.1.1 hS
  have eq10_0 := ad_keep eq10_0 rq10_0.1 g7
  have eq12_0 := ad_keep eq12_0 rq12_0.1 g7
  have eq12_1 := ad_keep eq12_1 rq12_1.1 g7
  have eq11_0 := ad_keep eq11_0 rq11_0.1 g7
  have eq11_1 := ad_keep eq11_1 rq11_1.1 g7
  have eq10_1 := ad_keep eq10_1 rq10_1.1 g7
  have rq10_0 := rq10_0.keep g7 (fun z => absurd z.1 (by decide))
  have rq12_0 := rq12_0.keep g7 (fun z => absurd z.1 (by decide))
  have rq12_1 := rq12_1.keep g7 (fun z => absurd z.1 (by decide))
  have rq11_0 := rq11_0.keep g7 (fun z => absurd z.1 (by decide))
  have rq11_1 := rq11_1.keep g7 (fun z => absurd z.1 (by decide))
  have rq10_1 := rq10_1.keep g7 (fun z => absurd z.1 (by decide))
  have eq10_2 := ad_keep eq10_2 rq10_2.1 gp
  have rq10_2 := rq10_2.keep gp (fun z => absurd z.1 (by decide))
  refine lv_aload_n hx hb dX4_init_66 rfl (lv_at hl 0 rfl) ?_
  refine lv_sipush (v := nI 8192) hx hb dX4_init_67 (by decide) ?_
  have fz : dd Y7 11 2 = false := ne_f (fun z => by
    rcases (G7.2.2 11 2).mp z with y | y
    · rw [hfr 11 _ (by decide) (by decide)] at y; cases y
    · exact absurd y (by decide))
  refine nAr (ty := .int) (a0 := (8192, .inl (fun _ => 0))) (N' := 8192) hx hb hts (List.mem_of_getElem? (i := 9) rfl) rfl hw I7.1 hS 11 2 1 rfl ra_i fz (fun _ => rfl) (by decide) (by decide) (by decide) (Nat.le_of_ble_eq_true rfl) (Nat.le_of_ble_eq_true rfl) dX4_init_70 (fun q11_2 H hw hS => ?_)
  have gz : Gr Y7 (dN Y7 q11_2 11 2 (.inl (g_cy (dG Y7) 1, 8192, .inl (fun _ => 0)))) none2 (one2 11 2) := Gr.new fz
  have eq11_2 : q11_2 = g_ad (dG (dN Y7 q11_2 11 2 (.inl (g_cy (dG Y7) 1, 8192, .inl (fun _ => 0))))) 11 2 := dN_a.symm
  have rq11_2 : arR X (dN Y7 q11_2 11 2 (.inl (g_cy (dG Y7) 1, 8192, .inl (fun _ => 0)))) 11 2 1 (8192, .inl (fun _ => 0)) := ⟨dN_d, by rw [dN_c, G7.1.2.1]⟩
  obtain ⟨Z, hZ⟩ : ∃ z, z = dN Y7 q11_2 11 2 (.inl (g_cy (dG Y7) 1, 8192, .inl (fun _ => 0))) := ⟨_, rfl⟩
  rw [← hZ] at hw gz eq11_2 rq11_2
  have dz := (gz.2.2 9 0).mpr (Or.inl d7)
  have cz := ((gz.2.1 9 0 d7).2 (fun z => z)).trans c7
  have az := ad_keep a7 d7 gz
  have Iz := I7.gr gz
  have hS := va_SA gz.1.1 hS
  refine pfN (X := Z) (ci := 4) (fs := [.int 0, .ref q10_0, .ref q12_0, .ref q12_1, .ref q11_0, .ref q11_1, .ref q10_1, .ref q10_2, .null, .null, .null, .null, .int 0, .int 0, .null, .null, .null]) hx hb hown hts hw Iz.1 hS 9 0 dz cz rfl (fun _ h => List.mem_cons_of_mem _ (List.mem_append_right _ h)) tyX4 tyX4_ok nmX4 8 (by decide) (List.mem_of_getElem? (i := 14) rfl) (Or.inr ⟨hnm, rfl⟩) (ty := .array .int) (by decide +kernel) rfl rfl (Nat.le_of_ble_eq_true rfl) az dX4_init_72 (fun H locs hw hS => ?_)
  have gp : Gr Z (dP Z 9 0 (.inr (4, [.int 0, .ref q10_0, .ref q12_0, .ref q12_1, .ref q11_0, .ref q11_1, .ref q10_1, .ref q10_2, .ref q11_2, .null, .null, .null, .int 0, .int 0, .null, .null, .null]))) (one2 9 0) none2 := Gr.put
  have c8 : dc (dP Z 9 0 (.inr (4, [.int 0, .ref q10_0, .ref q12_0, .ref q12_1, .ref q11_0, .ref q11_1, .ref q10_1, .ref q10_2, .ref q11_2, .null, .null, .null, .int 0, .int 0, .null, .null, .null]))) 9 0 = .inr (4, [.int 0, .ref q10_0, .ref q12_0, .ref q12_1, .ref q11_0, .ref q11_1, .ref q10_1, .ref q10_2, .ref q11_2, .null, .null, .null, .int 0, .int 0, .null, .null, .null]) := dP_c
  have hw : dwM (dP Z 9 0 (.inr (4, [.int 0, .ref q10_0, .ref q12_0, .ref q12_1, .ref q11_0, .ref q11_1, .ref q10_1, .ref q10_2, .ref q11_2, .null, .null, .null, .int 0, .int 0, .null, .null, .null]))) H s := hw
  obtain ⟨Y8, hY8⟩ : ∃ z, z = dP Z 9 0 (.inr (4, [.int 0, .ref q10_0, .ref q12_0, .ref q12_1, .ref q11_0, .ref q11_1, .ref q10_1, .ref q10_2, .ref q11_2, .null, .null, .null, .int 0, .int 0, .null, .null, .null])) := ⟨_, rfl⟩
  rw [← hY8] at hw gp c8
  have g8 : Gr Y7 Y8 (one2 9 0) (fun a b => (a = 11 ∧ b = 2)) := (gz.trans gp).mono (fun a b _ h => h.elim False.elim id) (fun a b => (by constructor <;> intro h <;> (try simp only [none2, one2, bxN, psN, or_false, false_or] at h ⊢) <;> omega))
  have G8 : Gr X Y8 (one2 9 0) (fun a b => ((((((((False) ∨ (a = 10 ∧ b = 0)) ∨ (a = 12 ∧ b = 0)) ∨ (a = 12 ∧ b = 1)) ∨ (a = 11 ∧ b = 0)) ∨ (a = 11 ∧ b = 1)) ∨ (a = 10 ∧ b = 1)) ∨ (a = 10 ∧ b = 2)) ∨ (a = 11 ∧ b = 2)) := (G7.trans g8).mono (fun a b _ h => h.elim id id) (fun _ _ => Iff.rfl)
  have d8 := (g8.2.2 9 0).mpr (Or.inl d7)
  have a8 := ad_keep a7 d7 g8
  have I8 := I7.gr g8
  have hS := va_SA gp.1.1 hS
  have eq10_0 := ad_keep eq10_0 rq10_0.1 g8
  have eq12_0 := ad_keep eq12_0 rq12_0.1 g8
  have eq12_1 := ad_keep eq12_1 rq12_1.1 g8
  have eq11_0 := ad_keep eq11_0 rq11_0.1 g8
  have eq11_1 := ad_keep eq11_1 rq11_1.1 g8
  have eq10_1 := ad_keep eq10_1 rq10_1.1 g8
  have eq10_2 := ad_keep eq10_2 rq10_2.1 g8
  have rq10_0 := rq10_0.keep g8 (fun z => absurd z.1 (by decide))
  have rq12_0 := rq12_0.keep g8 (fun z => absurd z.1 (by decide))
  have rq12_1 := rq12_1.keep g8 (fun z => absurd z.1 (by decide))
  have rq11_0 := rq11_0.keep g8 (fun z => absurd z.1 (by decide))
  have rq11_1 := rq11_1.keep g8 (fun z => absurd z.1 (by decide))
  have rq10_1 := rq10_1.keep g8 (fun z => absurd z.1 (by decide))
  have rq10_2 := rq10_2.keep g8 (fun z => absurd z.1 (by decide))
  have eq11_2 := ad_keep eq11_2 rq11_2.1 gp
  have rq11_2 := rq11_2.keep gp (fun z => absurd z.1 (by decide))
  refine lv_aload_n hx hb dX4_init_75 rfl (lv_at hl 0 rfl) ?_
  refine lv_sipush (v := nI 8192) hx hb dX4_init_76 (by decide) ?_
  have fz : dd Y8 11 3 = false := ne_f (fun z => by
    rcases (G8.2.2 11 3).mp z with y | y
    · rw [hfr 11 _ (by decide) (by decide)] at y; cases y
    · exact absurd y (by decide))
  refine nAr (ty := .int) (a0 := (8192, .inl (fun _ => 0))) (N' := 8192) hx hb hts (List.mem_of_getElem? (i := 9) rfl) rfl hw I8.1 hS 11 3 1 rfl ra_i fz (fun _ => rfl) (by decide) (by decide) (by decide) (Nat.le_of_ble_eq_true rfl) (Nat.le_of_ble_eq_true rfl) dX4_init_79 (fun q11_3 H hw hS => ?_)
  have gz : Gr Y8 (dN Y8 q11_3 11 3 (.inl (g_cy (dG Y8) 1, 8192, .inl (fun _ => 0)))) none2 (one2 11 3) := Gr.new fz
  have eq11_3 : q11_3 = g_ad (dG (dN Y8 q11_3 11 3 (.inl (g_cy (dG Y8) 1, 8192, .inl (fun _ => 0))))) 11 3 := dN_a.symm
  have rq11_3 : arR X (dN Y8 q11_3 11 3 (.inl (g_cy (dG Y8) 1, 8192, .inl (fun _ => 0)))) 11 3 1 (8192, .inl (fun _ => 0)) := ⟨dN_d, by rw [dN_c, G8.1.2.1]⟩
  obtain ⟨Z, hZ⟩ : ∃ z, z = dN Y8 q11_3 11 3 (.inl (g_cy (dG Y8) 1, 8192, .inl (fun _ => 0))) := ⟨_, rfl⟩
  rw [← hZ] at hw gz eq11_3 rq11_3
  have dz := (gz.2.2 9 0).mpr (Or.inl d8)
  have cz := ((gz.2.1 9 0 d8).2 (fun z => z)).trans c8
  have az := ad_keep a8 d8 gz
  have Iz := I8.gr gz
  have hS := va_SA gz.1.1 hS
  refine pfN (X := Z) (ci := 4) (fs := [.int 0, .ref q10_0, .ref q12_0, .ref q12_1, .ref q11_0, .ref q11_1, .ref q10_1, .ref q10_2, .ref q11_2, .null, .null, .null, .int 0, .int 0, .null, .null, .null]) hx hb hown hts hw Iz.1 hS 9 0 dz cz rfl (fun _ h => List.mem_cons_of_mem _ (List.mem_append_right _ h)) tyX4 tyX4_ok nmX4 9 (by decide) (List.mem_of_getElem? (i := 15) rfl) (Or.inr ⟨hnm, rfl⟩) (ty := .array .int) (by decide +kernel) rfl rfl (Nat.le_of_ble_eq_true rfl) az dX4_init_81 (fun H locs hw hS => ?_)
  have gp : Gr Z (dP Z 9 0 (.inr (4, [.int 0, .ref q10_0, .ref q12_0, .ref q12_1, .ref q11_0, .ref q11_1, .ref q10_1, .ref q10_2, .ref q11_2, .ref q11_3, .null, .null, .int 0, .int 0, .null, .null, .null]))) (one2 9 0) none2 := Gr.put
  have c9 : dc (dP Z 9 0 (.inr (4, [.int 0, .ref q10_0, .ref q12_0, .ref q12_1, .ref q11_0, .ref q11_1, .ref q10_1, .ref q10_2, .ref q11_2, .ref q11_3, .null, .null, .int 0, .int 0, .null, .null, .null]))) 9 0 = .inr (4, [.int 0, .ref q10_0, .ref q12_0, .ref q12_1, .ref q11_0, .ref q11_1, .ref q10_1, .ref q10_2, .ref q11_2, .ref q11_3, .null, .null, .int 0, .int 0, .null, .null, .null]) := dP_c
  have hw : dwM (dP Z 9 0 (.inr (4, [.int 0, .ref q10_0, .ref q12_0, .ref q12_1, .ref q11_0, .ref q11_1, .ref q10_1, .ref q10_2, .ref q11_2, .ref q11_3, .null, .null, .int 0, .int 0, .null, .null, .null]))) H s := hw
  obtain ⟨Y9, hY9⟩ : ∃ z, z = dP Z 9 0 (.inr (4, [.int 0, .ref q10_0, .ref q12_0, .ref q12_1, .ref q11_0, .ref q11_1, .ref q10_1, .ref q10_2, .ref q11_2, .ref q11_3, .null, .null, .int 0, .int 0, .null, .null, .null])) := ⟨_, rfl⟩
  rw [← hY9] at hw gp c9
  have g9 : Gr Y8 Y9 (one2 9 0) (fun a b => (a = 11 ∧ b = 3)) := (gz.trans gp).mono (fun a b _ h => h.elim False.elim id) (fun a b => (by constructor <;> intro h <;> (try simp only [none2, one2, bxN, psN, or_false, false_or] at h ⊢) <;> omega))
  have G9 : Gr X Y9 (one2 9 0) (fun a b => (((((((((False) ∨ (a = 10 ∧ b = 0)) ∨ (a = 12 ∧ b = 0)) ∨ (a = 12 ∧ b = 1)) ∨ (a = 11 ∧ b = 0)) ∨ (a = 11 ∧ b = 1)) ∨ (a = 10 ∧ b = 1)) ∨ (a = 10 ∧ b = 2)) ∨ (a = 11 ∧ b = 2)) ∨ (a = 11 ∧ b = 3)) := (G8.trans g9).mono (fun a b _ h => h.elim id id) (fun _ _ => Iff.rfl)
  have d9 := (g9.2.2 9 0).mpr (Or.inl d8)
  have a9 := ad_keep a8 d8 g9
  have I9 := I8.gr g9
  have hS := va_SA gp.1.1 hS
  have eq10_0 := ad_keep eq10_0 rq10_0.1 g9
  have eq12_0 := ad_keep eq12_0 rq12_0.1 g9
  have eq12_1 := ad_keep eq12_1 rq12_1.1 g9
  have eq11_0 := ad_keep eq11_0 rq11_0.1 g9
  have eq11_1 := ad_keep eq11_1 rq11_1.1 g9
  have eq10_1 := ad_keep eq10_1 rq10_1.1 g9
  have eq10_2 := ad_keep eq10_2 rq10_2.1 g9
  have eq11_2 := ad_keep eq11_2 rq11_2.1 g9
  have rq10_0 := rq10_0.keep g9 (fun z => absurd z.1 (by decide))
  have rq12_0 := rq12_0.keep g9 (fun z => absurd z.1 (by decide))
  have rq12_1 := rq12_1.keep g9 (fun z => absurd z.1 (by decide))
  have rq11_0 := rq11_0.keep g9 (fun z => absurd z.1 (by decide))
  have rq11_1 := rq11_1.keep g9 (fun z => absurd z.1 (by decide))
  have rq10_1 := rq10_1.keep g9 (fun z => absurd z.1 (by decide))
  have rq10_2 := rq10_2.keep g9 (fun z => absurd z.1 (by decide))
  have rq11_2 := rq11_2.keep g9 (fun z => absurd z.1 (by decide))
  have eq11_3 := ad_keep eq11_3 rq11_3.1 gp
  have rq11_3 := rq11_3.keep gp (fun z => absurd z.1 (by decide))
  refine lv_aload_n hx hb dX4_init_84 rfl (lv_at hl 0 rfl) ?_
  refine lv_sipush (v := nI 8192) hx hb dX4_init_85 (by decide) ?_
  have fz : dd Y9 11 4 = false := ne_f (fun z => by
    rcases (G9.2.2 11 4).mp z with y | y
    · rw [hfr 11 _ (by decide) (by decide)] at y; cases y
    · exact absurd y (by decide))
  refine nAr (ty := .int) (a0 := (8192, .inl (fun _ => 0))) (N' := 8192) hx hb hts (List.mem_of_getElem? (i := 9) rfl) rfl hw I9.1 hS 11 4 1 rfl ra_i fz (fun _ => rfl) (by decide) (by decide) (by decide) (Nat.le_of_ble_eq_true rfl) (Nat.le_of_ble_eq_true rfl) dX4_init_88 (fun q11_4 H hw hS => ?_)
  have gz : Gr Y9 (dN Y9 q11_4 11 4 (.inl (g_cy (dG Y9) 1, 8192, .inl (fun _ => 0)))) none2 (one2 11 4) := Gr.new fz
  have eq11_4 : q11_4 = g_ad (dG (dN Y9 q11_4 11 4 (.inl (g_cy (dG Y9) 1, 8192, .inl (fun _ => 0))))) 11 4 := dN_a.symm
  have rq11_4 : arR X (dN Y9 q11_4 11 4 (.inl (g_cy (dG Y9) 1, 8192, .inl (fun _ => 0)))) 11 4 1 (8192, .inl (fun _ => 0)) := ⟨dN_d, by rw [dN_c, G9.1.2.1]⟩
  obtain ⟨Z, hZ⟩ : ∃ z, z = dN Y9 q11_4 11 4 (.inl (g_cy (dG Y9) 1, 8192, .inl (fun _ => 0))) := ⟨_, rfl⟩
  rw [← hZ] at hw gz eq11_4 rq11_4
  have dz := (gz.2.2 9 0).mpr (Or.inl d9)
  have cz := ((gz.2.1 9 0 d9).2 (fun z => z)).trans c9
  have az := ad_keep a9 d9 gz
  have Iz := I9.gr gz
  have hS := va_SA gz.1.1 hS
  refine pfN (X := Z) (ci := 4) (fs := [.int 0, .ref q10_0, .ref q12_0, .ref q12_1, .ref q11_0, .ref q11_1, .ref q10_1, .ref q10_2, .ref q11_2, .ref q11_3, .null, .null, .int 0, .int 0, .null, .null, .null]) hx hb hown hts hw Iz.1 hS 9 0 dz cz rfl (fun _ h => List.mem_cons_of_mem _ (List.mem_append_right _ h)) tyX4 tyX4_ok nmX4 10 (by decide) (List.mem_of_getElem? (i := 16) rfl) (Or.inr ⟨hnm, rfl⟩) (ty := .array .int) (by decide +kernel) rfl rfl (Nat.le_of_ble_eq_true rfl) az dX4_init_90 (fun H locs hw hS => ?_)
  have gp : Gr Z (dP Z 9 0 (.inr (4, [.int 0, .ref q10_0, .ref q12_0, .ref q12_1, .ref q11_0, .ref q11_1, .ref q10_1, .ref q10_2, .ref q11_2, .ref q11_3, .ref q11_4, .null, .int 0, .int 0, .null, .null, .null]))) (one2 9 0) none2 := Gr.put
  have c10 : dc (dP Z 9 0 (.inr (4, [.int 0, .ref q10_0, .ref q12_0, .ref q12_1, .ref q11_0, .ref q11_1, .ref q10_1, .ref q10_2, .ref q11_2, .ref q11_3, .ref q11_4, .null, .int 0, .int 0, .null, .null, .null]))) 9 0 = .inr (4, [.int 0, .ref q10_0, .ref q12_0, .ref q12_1, .ref q11_0, .ref q11_1, .ref q10_1, .ref q10_2, .ref q11_2, .ref q11_3, .ref q11_4, .null, .int 0, .int 0, .null, .null, .null]) := dP_c
  have hw : dwM (dP Z 9 0 (.inr (4, [.int 0, .ref q10_0, .ref q12_0, .ref q12_1, .ref q11_0, .ref q11_1, .ref q10_1, .ref q10_2, .ref q11_2, .ref q11_3, .ref q11_4, .null, .int 0, .int 0, .null, .null, .null]))) H s := hw
  obtain ⟨Y10, hY10⟩ : ∃ z, z = dP Z 9 0 (.inr (4, [.int 0, .ref q10_0, .ref q12_0, .ref q12_1, .ref q11_0, .ref q11_1, .ref q10_1, .ref q10_2, .ref q11_2, .ref q11_3, .ref q11_4, .null, .int 0, .int 0, .null, .null, .null])) := ⟨_, rfl⟩
  rw [← hY10] at hw gp c10
  have g10 : Gr Y9 Y10 (one2 9 0) (fun a b => (a = 11 ∧ b = 4)) := (gz.trans gp).mono (fun a b _ h => h.elim False.elim id) (fun a b => (by constructor <;> intro h <;> (try simp only [none2, one2, bxN, psN, or_false, false_or] at h ⊢) <;> omega))
  have G10 : Gr X Y10 (one2 9 0) (fun a b => ((((((((((False) ∨ (a = 10 ∧ b = 0)) ∨ (a = 12 ∧ b = 0)) ∨ (a = 12 ∧ b = 1)) ∨ (a = 11 ∧ b = 0)) ∨ (a = 11 ∧ b = 1)) ∨ (a = 10 ∧ b = 1)) ∨ (a = 10 ∧ b = 2)) ∨ (a = 11 ∧ b = 2)) ∨ (a = 11 ∧ b = 3)) ∨ (a = 11 ∧ b = 4)) := (G9.trans g10).mono (fun a b _ h => h.elim id id) (fun _ _ => Iff.rfl)
  have d10 := (g10.2.2 9 0).mpr (Or.inl d9)
  have a10 := ad_keep a9 d9 g10
  have I10 := I9.gr g10
  have hS := va_SA gp.1.1 hS
  have eq10_0 := ad_keep eq10_0 rq10_0.1 g10
  have eq12_0 := ad_keep eq12_0 rq12_0.1 g10
  have eq12_1 := ad_keep eq12_1 rq12_1.1 g10
  have eq11_0 := ad_keep eq11_0 rq11_0.1 g10
  have eq11_1 := ad_keep eq11_1 rq11_1.1 g10
  have eq10_1 := ad_keep eq10_1 rq10_1.1 g10
  have eq10_2 := ad_keep eq10_2 rq10_2.1 g10
  have eq11_2 := ad_keep eq11_2 rq11_2.1 g10
  have eq11_3 := ad_keep eq11_3 rq11_3.1 g10
  have rq10_0 := rq10_0.keep g10 (fun z => absurd z.1 (by decide))
  have rq12_0 := rq12_0.keep g10 (fun z => absurd z.1 (by decide))
  have rq12_1 := rq12_1.keep g10 (fun z => absurd z.1 (by decide))
  have rq11_0 := rq11_0.keep g10 (fun z => absurd z.1 (by decide))
  have rq11_1 := rq11_1.keep g10 (fun z => absurd z.1 (by decide))
  have rq10_1 := rq10_1.keep g10 (fun z => absurd z.1 (by decide))
  have rq10_2 := rq10_2.keep g10 (fun z => absurd z.1 (by decide))
  have rq11_2 := rq11_2.keep g10 (fun z => absurd z.1 (by decide))
  have rq11_3 := rq11_3.keep g10 (fun z => absurd z.1 (by decide))
  have eq11_4 := ad_keep eq11_4 rq11_4.1 gp
  have rq11_4 := rq11_4.keep gp (fun z => absurd z.1 (by decide))
  refine lv_aload_n hx hb dX4_init_93 rfl (lv_at hl 0 rfl) ?_
  refine lv_sipush (v := nI 8192) hx hb dX4_init_94 (by decide) ?_
  have fz : dd Y10 11 5 = false := ne_f (fun z => by
    rcases (G10.2.2 11 5).mp z with y | y
    · rw [hfr 11 _ (by decide) (by decide)] at y; cases y
    · exact absurd y (by decide))
  refine nAr (ty := .int) (a0 := (8192, .inl (fun _ => 0))) (N' := 8192) hx hb hts (List.mem_of_getElem? (i := 9) rfl) rfl hw I10.1 hS 11 5 1 rfl ra_i fz (fun _ => rfl) (by decide) (by decide) (by decide) (Nat.le_of_ble_eq_true rfl) (Nat.le_of_ble_eq_true rfl) dX4_init_97 (fun q11_5 H hw hS => ?_)
  have gz : Gr Y10 (dN Y10 q11_5 11 5 (.inl (g_cy (dG Y10) 1, 8192, .inl (fun _ => 0)))) none2 (one2 11 5) := Gr.new fz
  have eq11_5 : q11_5 = g_ad (dG (dN Y10 q11_5 11 5 (.inl (g_cy (dG Y10) 1, 8192, .inl (fun _ => 0))))) 11 5 := dN_a.symm
  have rq11_5 : arR X (dN Y10 q11_5 11 5 (.inl (g_cy (dG Y10) 1, 8192, .inl (fun _ => 0)))) 11 5 1 (8192, .inl (fun _ => 0)) := ⟨dN_d, by rw [dN_c, G10.1.2.1]⟩
  obtain ⟨Z, hZ⟩ : ∃ z, z = dN Y10 q11_5 11 5 (.inl (g_cy (dG Y10) 1, 8192, .inl (fun _ => 0))) := ⟨_, rfl⟩
  rw [← hZ] at hw gz eq11_5 rq11_5
  have dz := (gz.2.2 9 0).mpr (Or.inl d10)
  have cz := ((gz.2.1 9 0 d10).2 (fun z => z)).trans c10
  have az := ad_keep a10 d10 gz
  have Iz := I10.gr gz
  have hS := va_SA gz.1.1 hS
  refine pfN (X := Z) (ci := 4) (fs := [.int 0, .ref q10_0, .ref q12_0, .ref q12_1, .ref q11_0, .ref q11_1, .ref q10_1, .ref q10_2, .ref q11_2, .ref q11_3, .ref q11_4, .null, .int 0, .int 0, .null, .null, .null]) hx hb hown hts hw Iz.1 hS 9 0 dz cz rfl (fun _ h => List.mem_cons_of_mem _ (List.mem_append_right _ h)) tyX4 tyX4_ok nmX4 11 (by decide) (List.mem_of_getElem? (i := 17) rfl) (Or.inr ⟨hnm, rfl⟩) (ty := .array .int) (by decide +kernel) rfl rfl (Nat.le_of_ble_eq_true rfl) az dX4_init_99 (fun H locs hw hS => ?_)
  have gp : Gr Z (dP Z 9 0 (.inr (4, [.int 0, .ref q10_0, .ref q12_0, .ref q12_1, .ref q11_0, .ref q11_1, .ref q10_1, .ref q10_2, .ref q11_2, .ref q11_3, .ref q11_4, .ref q11_5, .int 0, .int 0, .null, .null, .null]))) (one2 9 0) none2 := Gr.put
  have c11 : dc (dP Z 9 0 (.inr (4, [.int 0, .ref q10_0, .ref q12_0, .ref q12_1, .ref q11_0, .ref q11_1, .ref q10_1, .ref q10_2, .ref q11_2, .ref q11_3, .ref q11_4, .ref q11_5, .int 0, .int 0, .null, .null, .null]))) 9 0 = .inr (4, [.int 0, .ref q10_0, .ref q12_0, .ref q12_1, .ref q11_0, .ref q11_1, .ref q10_1, .ref q10_2, .ref q11_2, .ref q11_3, .ref q11_4, .ref q11_5, .int 0, .int 0, .null, .null, .null]) := dP_c
  have hw : dwM (dP Z 9 0 (.inr (4, [.int 0, .ref q10_0, .ref q12_0, .ref q12_1, .ref q11_0, .ref q11_1, .ref q10_1, .ref q10_2, .ref q11_2, .ref q11_3, .ref q11_4, .ref q11_5, .int 0, .int 0, .null, .null, .null]))) H s := hw
  obtain ⟨Y11, hY11⟩ : ∃ z, z = dP Z 9 0 (.inr (4, [.int 0, .ref q10_0, .ref q12_0, .ref q12_1, .ref q11_0, .ref q11_1, .ref q10_1, .ref q10_2, .ref q11_2, .ref q11_3, .ref q11_4, .ref q11_5, .int 0, .int 0, .null, .null, .null])) := ⟨_, rfl⟩
  rw [← hY11] at hw gp c11
  have g11 : Gr Y10 Y11 (one2 9 0) (fun a b => (a = 11 ∧ b = 5)) := (gz.trans gp).mono (fun a b _ h => h.elim False.elim id) (fun a b => (by constructor <;> intro h <;> (try simp only [none2, one2, bxN, psN, or_false, false_or] at h ⊢) <;> omega))
  have G11 : Gr X Y11 (one2 9 0) (fun a b => (((((((((((False) ∨ (a = 10 ∧ b = 0)) ∨ (a = 12 ∧ b = 0)) ∨ (a = 12 ∧ b = 1)) ∨ (a = 11 ∧ b = 0)) ∨ (a = 11 ∧ b = 1)) ∨ (a = 10 ∧ b = 1)) ∨ (a = 10 ∧ b = 2)) ∨ (a = 11 ∧ b = 2)) ∨ (a = 11 ∧ b = 3)) ∨ (a = 11 ∧ b = 4)) ∨ (a = 11 ∧ b = 5)) := (G10.trans g11).mono (fun a b _ h => h.elim id id) (fun _ _ => Iff.rfl)
  have d11 := (g11.2.2 9 0).mpr (Or.inl d10)
  have a11 := ad_keep a10 d10 g11
  have I11 := I10.gr g11
  have hS := va_SA gp.1.1 hS
  have eq10_0 := ad_keep eq10_0 rq10_0.1 g11
  have eq12_0 := ad_keep eq12_0 rq12_0.1 g11
  have eq12_1 := ad_keep eq12_1 rq12_1.1 g11
  have eq11_0 := ad_keep eq11_0 rq11_0.1 g11
  have eq11_1 := ad_keep eq11_1 rq11_1.1 g11
  have eq10_1 := ad_keep eq10_1 rq10_1.1 g11
  have eq10_2 := ad_keep eq10_2 rq10_2.1 g11
  have eq11_2 := ad_keep eq11_2 rq11_2.1 g11
  have eq11_3 := ad_keep eq11_3 rq11_3.1 g11
  have eq11_4 := ad_keep eq11_4 rq11_4.1 g11
  have rq10_0 := rq10_0.keep g11 (fun z => absurd z.1 (by decide))
  have rq12_0 := rq12_0.keep g11 (fun z => absurd z.1 (by decide))
  have rq12_1 := rq12_1.keep g11 (fun z => absurd z.1 (by decide))
  have rq11_0 := rq11_0.keep g11 (fun z => absurd z.1 (by decide))
  have rq11_1 := rq11_1.keep g11 (fun z => absurd z.1 (by decide))
  have rq10_1 := rq10_1.keep g11 (fun z => absurd z.1 (by decide))
  have rq10_2 := rq10_2.keep g11 (fun z => absurd z.1 (by decide))
  have rq11_2 := rq11_2.keep g11 (fun z => absurd z.1 (by decide))
  have rq11_3 := rq11_3.keep g11 (fun z => absurd z.1 (by decide))
  have rq11_4 := rq11_4.keep g11 (fun z => absurd z.1 (by decide))
  have eq11_5 := ad_keep eq11_5 rq11_5.1 gp
  have rq11_5 := rq11_5.keep gp (fun z => absurd z.1 (by decide))
  refine lv_aload_n hx hb dX4_init_102 rfl (lv_at hl 0 rfl) ?_
  refine lv_sipush (v := nI 512) hx hb dX4_init_103 (by decide) ?_
  have fz : dd Y11 11 6 = false := ne_f (fun z => by
    rcases (G11.2.2 11 6).mp z with y | y
    · rw [hfr 11 _ (by decide) (by decide)] at y; cases y
    · exact absurd y (by decide))
  refine nAr (ty := .int) (a0 := (512, .inl (fun _ => 0))) (N' := 512) hx hb hts (List.mem_of_getElem? (i := 9) rfl) rfl hw I11.1 hS 11 6 1 rfl ra_i fz (fun _ => rfl) (by decide) (by decide) (by decide) (Nat.le_of_ble_eq_true rfl) (Nat.le_of_ble_eq_true rfl) dX4_init_106 (fun q11_6 H hw hS => ?_)
  have gz : Gr Y11 (dN Y11 q11_6 11 6 (.inl (g_cy (dG Y11) 1, 512, .inl (fun _ => 0)))) none2 (one2 11 6) := Gr.new fz
  have eq11_6 : q11_6 = g_ad (dG (dN Y11 q11_6 11 6 (.inl (g_cy (dG Y11) 1, 512, .inl (fun _ => 0))))) 11 6 := dN_a.symm
  have rq11_6 : arR X (dN Y11 q11_6 11 6 (.inl (g_cy (dG Y11) 1, 512, .inl (fun _ => 0)))) 11 6 1 (512, .inl (fun _ => 0)) := ⟨dN_d, by rw [dN_c, G11.1.2.1]⟩
  obtain ⟨Z, hZ⟩ : ∃ z, z = dN Y11 q11_6 11 6 (.inl (g_cy (dG Y11) 1, 512, .inl (fun _ => 0))) := ⟨_, rfl⟩
  rw [← hZ] at hw gz eq11_6 rq11_6
  have dz := (gz.2.2 9 0).mpr (Or.inl d11)
  have cz := ((gz.2.1 9 0 d11).2 (fun z => z)).trans c11
  have az := ad_keep a11 d11 gz
  have Iz := I11.gr gz
  have hS := va_SA gz.1.1 hS
  refine pfN (X := Z) (ci := 4) (fs := [.int 0, .ref q10_0, .ref q12_0, .ref q12_1, .ref q11_0, .ref q11_1, .ref q10_1, .ref q10_2, .ref q11_2, .ref q11_3, .ref q11_4, .ref q11_5, .int 0, .int 0, .null, .null, .null]) hx hb hown hts hw Iz.1 hS 9 0 dz cz rfl (fun _ h => List.mem_cons_of_mem _ (List.mem_append_right _ h)) tyX4 tyX4_ok nmX4 14 (by decide) (List.mem_of_getElem? (i := 18) rfl) (Or.inr ⟨hnm, rfl⟩) (ty := .array .int) (by decide +kernel) rfl rfl (Nat.le_of_ble_eq_true rfl) az dX4_init_108 (fun H locs hw hS => ?_)
  have gp : Gr Z (dP Z 9 0 (.inr (4, [.int 0, .ref q10_0, .ref q12_0, .ref q12_1, .ref q11_0, .ref q11_1, .ref q10_1, .ref q10_2, .ref q11_2, .ref q11_3, .ref q11_4, .ref q11_5, .int 0, .int 0, .ref q11_6, .null, .null]))) (one2 9 0) none2 := Gr.put
  have c12 : dc (dP Z 9 0 (.inr (4, [.int 0, .ref q10_0, .ref q12_0, .ref q12_1, .ref q11_0, .ref q11_1, .ref q10_1, .ref q10_2, .ref q11_2, .ref q11_3, .ref q11_4, .ref q11_5, .int 0, .int 0, .ref q11_6, .null, .null]))) 9 0 = .inr (4, [.int 0, .ref q10_0, .ref q12_0, .ref q12_1, .ref q11_0, .ref q11_1, .ref q10_1, .ref q10_2, .ref q11_2, .ref q11_3, .ref q11_4, .ref q11_5, .int 0, .int 0, .ref q11_6, .null, .null]) := dP_c
  have hw : dwM (dP Z 9 0 (.inr (4, [.int 0, .ref q10_0, .ref q12_0, .ref q12_1, .ref q11_0, .ref q11_1, .ref q10_1, .ref q10_2, .ref q11_2, .ref q11_3, .ref q11_4, .ref q11_5, .int 0, .int 0, .ref q11_6, .null, .null]))) H s := hw
  obtain ⟨Y12, hY12⟩ : ∃ z, z = dP Z 9 0 (.inr (4, [.int 0, .ref q10_0, .ref q12_0, .ref q12_1, .ref q11_0, .ref q11_1, .ref q10_1, .ref q10_2, .ref q11_2, .ref q11_3, .ref q11_4, .ref q11_5, .int 0, .int 0, .ref q11_6, .null, .null])) := ⟨_, rfl⟩
  rw [← hY12] at hw gp c12
  have g12 : Gr Y11 Y12 (one2 9 0) (fun a b => (a = 11 ∧ b = 6)) := (gz.trans gp).mono (fun a b _ h => h.elim False.elim id) (fun a b => (by constructor <;> intro h <;> (try simp only [none2, one2, bxN, psN, or_false, false_or] at h ⊢) <;> omega))
  have G12 : Gr X Y12 (one2 9 0) (fun a b => ((((((((((((False) ∨ (a = 10 ∧ b = 0)) ∨ (a = 12 ∧ b = 0)) ∨ (a = 12 ∧ b = 1)) ∨ (a = 11 ∧ b = 0)) ∨ (a = 11 ∧ b = 1)) ∨ (a = 10 ∧ b = 1)) ∨ (a = 10 ∧ b = 2)) ∨ (a = 11 ∧ b = 2)) ∨ (a = 11 ∧ b = 3)) ∨ (a = 11 ∧ b = 4)) ∨ (a = 11 ∧ b = 5)) ∨ (a = 11 ∧ b = 6)) := (G11.trans g12).mono (fun a b _ h => h.elim id id) (fun _ _ => Iff.rfl)
  have d12 := (g12.2.2 9 0).mpr (Or.inl d11)
  have a12 := ad_keep a11 d11 g12
  have I12 := I11.gr g12
  have hS := va_SA gp.1.1 hS
  have eq10_0 := ad_keep eq10_0 rq10_0.1 g12
  have eq12_0 := ad_keep eq12_0 rq12_0.1 g12
  have eq12_1 := ad_keep eq12_1 rq12_1.1 g12
  have eq11_0 := ad_keep eq11_0 rq11_0.1 g12
  have eq11_1 := ad_keep eq11_1 rq11_1.1 g12
  have eq10_1 := ad_keep eq10_1 rq10_1.1 g12
  have eq10_2 := ad_keep eq10_2 rq10_2.1 g12
  have eq11_2 := ad_keep eq11_2 rq11_2.1 g12
  have eq11_3 := ad_keep eq11_3 rq11_3.1 g12
  have eq11_4 := ad_keep eq11_4 rq11_4.1 g12
  have eq11_5 := ad_keep eq11_5 rq11_5.1 g12
  have rq10_0 := rq10_0.keep g12 (fun z => absurd z.1 (by decide))
  have rq12_0 := rq12_0.keep g12 (fun z => absurd z.1 (by decide))
  have rq12_1 := rq12_1.keep g12 (fun z => absurd z.1 (by decide))
  have rq11_0 := rq11_0.keep g12 (fun z => absurd z.1 (by decide))
  have rq11_1 := rq11_1.keep g12 (fun z => absurd z.1 (by decide))
  have rq10_1 := rq10_1.keep g12 (fun z => absurd z.1 (by decide))
  have rq10_2 := rq10_2.keep g12 (fun z => absurd z.1 (by decide))
  have rq11_2 := rq11_2.keep g12 (fun z => absurd z.1 (by decide))
  have rq11_3 := rq11_3.keep g12 (fun z => absurd z.1 (by decide))
  have rq11_4 := rq11_4.keep g12 (fun z => absurd z.1 (by decide))
  have rq11_5 := rq11_5.keep g12 (fun z => absurd z.1 (by decide))
  have eq11_6 := ad_keep eq11_6 rq11_6.1 gp
  have rq11_6 := rq11_6.keep gp (fun z => absurd z.1 (by decide))
  refine lv_aload_n hx hb dX4_init_111 rfl (lv_at hl 0 rfl) ?_
  refine lv_sipush (v := nI 512) hx hb dX4_init_112 (by decide) ?_
  have fz : dd Y12 10 3 = false := ne_f (fun z => by
    rcases (G12.2.2 10 3).mp z with y | y
    · rw [hfr 10 _ (by decide) (by decide)] at y; cases y
    · exact absurd y (by decide))
  refine nAr (ty := .float) (a0 := (512, .inr (.inr (.inl (fun _ => 0))))) (N' := 512) hx hb hts (List.mem_of_getElem? (i := 4) rfl) rfl hw I12.1 hS 10 3 0 rfl ra_f fz (fun _ => rfl) (by decide) (by decide) (by decide) (Nat.le_of_ble_eq_true rfl) (Nat.le_of_ble_eq_true rfl) dX4_init_115 (fun q10_3 H hw hS => ?_)
  have gz : Gr Y12 (dN Y12 q10_3 10 3 (.inl (g_cy (dG Y12) 0, 512, .inr (.inr (.inl (fun _ => 0)))))) none2 (one2 10 3) := Gr.new fz
  have eq10_3 : q10_3 = g_ad (dG (dN Y12 q10_3 10 3 (.inl (g_cy (dG Y12) 0, 512, .inr (.inr (.inl (fun _ => 0))))))) 10 3 := dN_a.symm
  have rq10_3 : arR X (dN Y12 q10_3 10 3 (.inl (g_cy (dG Y12) 0, 512, .inr (.inr (.inl (fun _ => 0)))))) 10 3 0 (512, .inr (.inr (.inl (fun _ => 0)))) := ⟨dN_d, by rw [dN_c, G12.1.2.1]⟩
  obtain ⟨Z, hZ⟩ : ∃ z, z = dN Y12 q10_3 10 3 (.inl (g_cy (dG Y12) 0, 512, .inr (.inr (.inl (fun _ => 0))))) := ⟨_, rfl⟩
  rw [← hZ] at hw gz eq10_3 rq10_3
  have dz := (gz.2.2 9 0).mpr (Or.inl d12)
  have cz := ((gz.2.1 9 0 d12).2 (fun z => z)).trans c12
  have az := ad_keep a12 d12 gz
  have Iz := I12.gr gz
  have hS := va_SA gz.1.1 hS
  refine pfN (X := Z) (ci := 4) (fs := [.int 0, .ref q10_0, .ref q12_0, .ref q12_1, .ref q11_0, .ref q11_1, .ref q10_1, .ref q10_2, .ref q11_2, .ref q11_3, .ref q11_4, .ref q11_5, .int 0, .int 0, .ref q11_6, .null, .null]) hx hb hown hts hw Iz.1 hS 9 0 dz cz rfl (fun _ h => List.mem_cons_of_mem _ (List.mem_append_right _ h)) tyX4 tyX4_ok nmX4 15 (by decide) (List.mem_of_getElem? (i := 19) rfl) (Or.inr ⟨hnm, rfl⟩) (ty := .array .float) (by decide +kernel) rfl rfl (Nat.le_of_ble_eq_true rfl) az dX4_init_117 (fun H locs hw hS => ?_)
  have gp : Gr Z (dP Z 9 0 (.inr (4, [.int 0, .ref q10_0, .ref q12_0, .ref q12_1, .ref q11_0, .ref q11_1, .ref q10_1, .ref q10_2, .ref q11_2, .ref q11_3, .ref q11_4, .ref q11_5, .int 0, .int 0, .ref q11_6, .ref q10_3, .null]))) (one2 9 0) none2 := Gr.put
  have c13 : dc (dP Z 9 0 (.inr (4, [.int 0, .ref q10_0, .ref q12_0, .ref q12_1, .ref q11_0, .ref q11_1, .ref q10_1, .ref q10_2, .ref q11_2, .ref q11_3, .ref q11_4, .ref q11_5, .int 0, .int 0, .ref q11_6, .ref q10_3, .null]))) 9 0 = .inr (4, [.int 0, .ref q10_0, .ref q12_0, .ref q12_1, .ref q11_0, .ref q11_1, .ref q10_1, .ref q10_2, .ref q11_2, .ref q11_3, .ref q11_4, .ref q11_5, .int 0, .int 0, .ref q11_6, .ref q10_3, .null]) := dP_c
  have hw : dwM (dP Z 9 0 (.inr (4, [.int 0, .ref q10_0, .ref q12_0, .ref q12_1, .ref q11_0, .ref q11_1, .ref q10_1, .ref q10_2, .ref q11_2, .ref q11_3, .ref q11_4, .ref q11_5, .int 0, .int 0, .ref q11_6, .ref q10_3, .null]))) H s := hw
  obtain ⟨Y13, hY13⟩ : ∃ z, z = dP Z 9 0 (.inr (4, [.int 0, .ref q10_0, .ref q12_0, .ref q12_1, .ref q11_0, .ref q11_1, .ref q10_1, .ref q10_2, .ref q11_2, .ref q11_3, .ref q11_4, .ref q11_5, .int 0, .int 0, .ref q11_6, .ref q10_3, .null])) := ⟨_, rfl⟩
  rw [← hY13] at hw gp c13
  have g13 : Gr Y12 Y13 (one2 9 0) (fun a b => (a = 10 ∧ b = 3)) := (gz.trans gp).mono (fun a b _ h => h.elim False.elim id) (fun a b => (by constructor <;> intro h <;> (try simp only [none2, one2, bxN, psN, or_false, false_or] at h ⊢) <;> omega))
  have G13 : Gr X Y13 (one2 9 0) (fun a b => (((((((((((((False) ∨ (a = 10 ∧ b = 0)) ∨ (a = 12 ∧ b = 0)) ∨ (a = 12 ∧ b = 1)) ∨ (a = 11 ∧ b = 0)) ∨ (a = 11 ∧ b = 1)) ∨ (a = 10 ∧ b = 1)) ∨ (a = 10 ∧ b = 2)) ∨ (a = 11 ∧ b = 2)) ∨ (a = 11 ∧ b = 3)) ∨ (a = 11 ∧ b = 4)) ∨ (a = 11 ∧ b = 5)) ∨ (a = 11 ∧ b = 6)) ∨ (a = 10 ∧ b = 3)) := (G12.trans g13).mono (fun a b _ h => h.elim id id) (fun _ _ => Iff.rfl)
  have d13 := (g13.2.2 9 0).mpr (Or.inl d12)
  have a13 := ad_keep a12 d12 g13
  have I13 := I12.gr g13
  have hS := va_SA gp.1.1 hS
  have eq10_0 := ad_keep eq10_0 rq10_0.1 g13
  have eq12_0 := ad_keep eq12_0 rq12_0.1 g13
  have eq12_1 := ad_keep eq12_1 rq12_1.1 g13
  have eq11_0 := ad_keep eq11_0 rq11_0.1 g13
  have eq11_1 := ad_keep eq11_1 rq11_1.1 g13
  have eq10_1 := ad_keep eq10_1 rq10_1.1 g13
  have eq10_2 := ad_keep eq10_2 rq10_2.1 g13
  have eq11_2 := ad_keep eq11_2 rq11_2.1 g13
  have eq11_3 := ad_keep eq11_3 rq11_3.1 g13
  have eq11_4 := ad_keep eq11_4 rq11_4.1 g13
  have eq11_5 := ad_keep eq11_5 rq11_5.1 g13
  have eq11_6 := ad_keep eq11_6 rq11_6.1 g13
  have rq10_0 := rq10_0.keep g13 (fun z => absurd z.1 (by decide))
  have rq12_0 := rq12_0.keep g13 (fun z => absurd z.1 (by decide))
  have rq12_1 := rq12_1.keep g13 (fun z => absurd z.1 (by decide))
  have rq11_0 := rq11_0.keep g13 (fun z => absurd z.1 (by decide))
  have rq11_1 := rq11_1.keep g13 (fun z => absurd z.1 (by decide))
  have rq10_1 := rq10_1.keep g13 (fun z => absurd z.1 (by decide))
  have rq10_2 := rq10_2.keep g13 (fun z => absurd z.1 (by decide))
  have rq11_2 := rq11_2.keep g13 (fun z => absurd z.1 (by decide))
  have rq11_3 := rq11_3.keep g13 (fun z => absurd z.1 (by decide))
  have rq11_4 := rq11_4.keep g13 (fun z => absurd z.1 (by decide))
  have rq11_5 := rq11_5.keep g13 (fun z => absurd z.1 (by decide))
  have rq11_6 := rq11_6.keep g13 (fun z => absurd z.1 (by decide))
  have eq10_3 := ad_keep eq10_3 rq10_3.1 gp
  have rq10_3 := rq10_3.keep gp (fun z => absurd z.1 (by decide))
  refine lv_aload_n hx hb dX4_init_120 rfl (lv_at hl 0 rfl) ?_
  refine lv_bipush (v := nI 6) hx hb dX4_init_121 (by decide) ?_
  have fz : dd Y13 10 4 = false := ne_f (fun z => by
    rcases (G13.2.2 10 4).mp z with y | y
    · rw [hfr 10 _ (by decide) (by decide)] at y; cases y
    · exact absurd y (by decide))
  refine nAr (ty := .float) (a0 := (6, .inr (.inr (.inl (fun _ => 0))))) (N' := 6) hx hb hts (List.mem_of_getElem? (i := 4) rfl) rfl hw I13.1 hS 10 4 0 rfl ra_f fz (fun _ => rfl) (by decide) (by decide) (by decide) (Nat.le_of_ble_eq_true rfl) (Nat.le_of_ble_eq_true rfl) dX4_init_123 (fun q10_4 H hw hS => ?_)
  have gz : Gr Y13 (dN Y13 q10_4 10 4 (.inl (g_cy (dG Y13) 0, 6, .inr (.inr (.inl (fun _ => 0)))))) none2 (one2 10 4) := Gr.new fz
  have eq10_4 : q10_4 = g_ad (dG (dN Y13 q10_4 10 4 (.inl (g_cy (dG Y13) 0, 6, .inr (.inr (.inl (fun _ => 0))))))) 10 4 := dN_a.symm
  have rq10_4 : arR X (dN Y13 q10_4 10 4 (.inl (g_cy (dG Y13) 0, 6, .inr (.inr (.inl (fun _ => 0)))))) 10 4 0 (6, .inr (.inr (.inl (fun _ => 0)))) := ⟨dN_d, by rw [dN_c, G13.1.2.1]⟩
  obtain ⟨Z, hZ⟩ : ∃ z, z = dN Y13 q10_4 10 4 (.inl (g_cy (dG Y13) 0, 6, .inr (.inr (.inl (fun _ => 0))))) := ⟨_, rfl⟩
  rw [← hZ] at hw gz eq10_4 rq10_4
  have dz := (gz.2.2 9 0).mpr (Or.inl d13)
  have cz := ((gz.2.1 9 0 d13).2 (fun z => z)).trans c13
  have az := ad_keep a13 d13 gz
  have Iz := I13.gr gz
  have hS := va_SA gz.1.1 hS
  refine pfN (X := Z) (ci := 4) (fs := [.int 0, .ref q10_0, .ref q12_0, .ref q12_1, .ref q11_0, .ref q11_1, .ref q10_1, .ref q10_2, .ref q11_2, .ref q11_3, .ref q11_4, .ref q11_5, .int 0, .int 0, .ref q11_6, .ref q10_3, .null]) hx hb hown hts hw Iz.1 hS 9 0 dz cz rfl (fun _ h => List.mem_cons_of_mem _ (List.mem_append_right _ h)) tyX4 tyX4_ok nmX4 16 (by decide) (List.mem_of_getElem? (i := 20) rfl) (Or.inr ⟨hnm, rfl⟩) (ty := .array .float) (by decide +kernel) rfl rfl (Nat.le_of_ble_eq_true rfl) az dX4_init_125 (fun H locs hw hS => ?_)
  have gp : Gr Z (dP Z 9 0 (.inr (4, [.int 0, .ref q10_0, .ref q12_0, .ref q12_1, .ref q11_0, .ref q11_1, .ref q10_1, .ref q10_2, .ref q11_2, .ref q11_3, .ref q11_4, .ref q11_5, .int 0, .int 0, .ref q11_6, .ref q10_3, .ref q10_4]))) (one2 9 0) none2 := Gr.put
  have c14 : dc (dP Z 9 0 (.inr (4, [.int 0, .ref q10_0, .ref q12_0, .ref q12_1, .ref q11_0, .ref q11_1, .ref q10_1, .ref q10_2, .ref q11_2, .ref q11_3, .ref q11_4, .ref q11_5, .int 0, .int 0, .ref q11_6, .ref q10_3, .ref q10_4]))) 9 0 = .inr (4, [.int 0, .ref q10_0, .ref q12_0, .ref q12_1, .ref q11_0, .ref q11_1, .ref q10_1, .ref q10_2, .ref q11_2, .ref q11_3, .ref q11_4, .ref q11_5, .int 0, .int 0, .ref q11_6, .ref q10_3, .ref q10_4]) := dP_c
  have hw : dwM (dP Z 9 0 (.inr (4, [.int 0, .ref q10_0, .ref q12_0, .ref q12_1, .ref q11_0, .ref q11_1, .ref q10_1, .ref q10_2, .ref q11_2, .ref q11_3, .ref q11_4, .ref q11_5, .int 0, .int 0, .ref q11_6, .ref q10_3, .ref q10_4]))) H s := hw
  obtain ⟨Y14, hY14⟩ : ∃ z, z = dP Z 9 0 (.inr (4, [.int 0, .ref q10_0, .ref q12_0, .ref q12_1, .ref q11_0, .ref q11_1, .ref q10_1, .ref q10_2, .ref q11_2, .ref q11_3, .ref q11_4, .ref q11_5, .int 0, .int 0, .ref q11_6, .ref q10_3, .ref q10_4])) := ⟨_, rfl⟩
  rw [← hY14] at hw gp c14
  have g14 : Gr Y13 Y14 (one2 9 0) (fun a b => (a = 10 ∧ b = 4)) := (gz.trans gp).mono (fun a b _ h => h.elim False.elim id) (fun a b => (by constructor <;> intro h <;> (try simp only [none2, one2, bxN, psN, or_false, false_or] at h ⊢) <;> omega))
  have G14 : Gr X Y14 (one2 9 0) (fun a b => ((((((((((((((False) ∨ (a = 10 ∧ b = 0)) ∨ (a = 12 ∧ b = 0)) ∨ (a = 12 ∧ b = 1)) ∨ (a = 11 ∧ b = 0)) ∨ (a = 11 ∧ b = 1)) ∨ (a = 10 ∧ b = 1)) ∨ (a = 10 ∧ b = 2)) ∨ (a = 11 ∧ b = 2)) ∨ (a = 11 ∧ b = 3)) ∨ (a = 11 ∧ b = 4)) ∨ (a = 11 ∧ b = 5)) ∨ (a = 11 ∧ b = 6)) ∨ (a = 10 ∧ b = 3)) ∨ (a = 10 ∧ b = 4)) := (G13.trans g14).mono (fun a b _ h => h.elim id id) (fun _ _ => Iff.rfl)
  have d14 := (g14.2.2 9 0).mpr (Or.inl d13)
  have a14 := ad_keep a13 d13 g14
  have I14 := I13.gr g14
  have hS := va_SA gp.1.1 hS
  have eq10_0 := ad_keep eq10_0 rq10_0.1 g14
  have eq12_0 := ad_keep eq12_0 rq12_0.1 g14
  have eq12_1 := ad_keep eq12_1 rq12_1.1 g14
  have eq11_0 := ad_keep eq11_0 rq11_0.1 g14
  have eq11_1 := ad_keep eq11_1 rq11_1.1 g14
  have eq10_1 := ad_keep eq10_1 rq10_1.1 g14
  have eq10_2 := ad_keep eq10_2 rq10_2.1 g14
  have eq11_2 := ad_keep eq11_2 rq11_2.1 g14
  have eq11_3 := ad_keep eq11_3 rq11_3.1 g14
  have eq11_4 := ad_keep eq11_4 rq11_4.1 g14
  have eq11_5 := ad_keep eq11_5 rq11_5.1 g14
  have eq11_6 := ad_keep eq11_6 rq11_6.1 g14
  have eq10_3 := ad_keep eq10_3 rq10_3.1 g14
  have rq10_0 := rq10_0.keep g14 (fun z => absurd z.1 (by decide))
  have rq12_0 := rq12_0.keep g14 (fun z => absurd z.1 (by decide))
  have rq12_1 := rq12_1.keep g14 (fun z => absurd z.1 (by decide))
  have rq11_0 := rq11_0.keep g14 (fun z => absurd z.1 (by decide))
  have rq11_1 := rq11_1.keep g14 (fun z => absurd z.1 (by decide))
  have rq10_1 := rq10_1.keep g14 (fun z => absurd z.1 (by decide))
  have rq10_2 := rq10_2.keep g14 (fun z => absurd z.1 (by decide))
  have rq11_2 := rq11_2.keep g14 (fun z => absurd z.1 (by decide))
  have rq11_3 := rq11_3.keep g14 (fun z => absurd z.1 (by decide))
  have rq11_4 := rq11_4.keep g14 (fun z => absurd z.1 (by decide))
  have rq11_5 := rq11_5.keep g14 (fun z => absurd z.1 (by decide))
  have rq11_6 := rq11_6.keep g14 (fun z => absurd z.1 (by decide))
  have rq10_3 := rq10_3.keep g14 (fun z => absurd z.1 (by decide))
  have eq10_4 := ad_keep eq10_4 rq10_4.1 gp
  have rq10_4 := rq10_4.keep gp (fun z => absurd z.1 (by decide))
  refine rvN hx hb hlk hr (Y := Y14) ⟨G14, ?_, rq10_0, rq12_0, rq12_1, rq11_0, rq11_1, rq10_1, rq10_2, rq11_2, rq11_3, rq11_4, rq11_5, rq11_6, rq10_3, rq10_4⟩ hw (va_SA G14.1.1.symm hS) (Nat.le_of_ble_eq_true rfl) (Nat.le_of_ble_eq_true rfl) dX4_init_128
  rw [c14, ← eq10_0, ← eq12_0, ← eq12_1, ← eq11_0, ← eq11_1, ← eq10_1, ← eq10_2, ← eq11_2, ← eq11_3, ← eq11_4, ← eq11_5, ← eq11_6, ← eq10_3, ← eq10_4]
