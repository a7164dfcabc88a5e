/-! Making a Box, a PairSet: new, dup, the call of the constructor -/
def bxR (Y : Dw) (j : Nat) : Prop := dd Y 1 j = true ∧ dd Y 2 j = true ∧ dc Y 1 j = .inr (1, [.ref (g_ad (dG Y) 2 j)]) ∧ dc Y 2 j = bxE Y
def psR (Y : Dw) (j : Nat) : Prop := dd Y 5 j = true ∧ dd Y 6 j = true ∧ dc Y 5 j = .inr (2, [.ref (g_ad (dG Y) 6 j), .int 0]) ∧ dc Y 6 j = psE Y
def bxN (j a b : Nat) : Prop := (a = 1 ∧ b = j) ∨ (a = 2 ∧ b = j)
def psN (j a b : Nat) : Prop := (a = 5 ∧ b = j) ∨ (a = 6 ∧ b = j)
theorem bxR.keep {X Y : Dw} {E N : Nat → Nat → Prop} {j : Nat} (h : bxR X j) (g : Gr X Y E N) (h1 : ¬ E 1 j) (h2 : ¬ E 2 j) : bxR Y j := by
  obtain ⟨a1, a2, a3, a4⟩ := h
  obtain ⟨⟨-, b2, -, -⟩, k2, k3⟩ := g
  refine ⟨(k3 _ _).mpr (Or.inl a1), (k3 _ _).mpr (Or.inl a2), ?_, ?_⟩
  · rw [(k2 1 j a1).2 h1, a3, (k2 2 j a2).1]
  · rw [(k2 2 j a2).2 h2, a4]
    unfold bxE
    rw [b2]
theorem psR.keep {X Y : Dw} {E N : Nat → Nat → Prop} {j : Nat} (h : psR X j) (g : Gr X Y E N) (h1 : ¬ E 5 j) (h2 : ¬ E 6 j) : psR Y j := by
  obtain ⟨a1, a2, a3, a4⟩ := h
  obtain ⟨⟨-, b2, -, -⟩, k2, k3⟩ := g
  refine ⟨(k3 _ _).mpr (Or.inl a1), (k3 _ _).mpr (Or.inl a2), ?_, ?_⟩
  · rw [(k2 5 j a1).2 h1, a3, (k2 6 j a2).1]
  · rw [(k2 6 j a2).2 h2, a4]
    unfold psE
    rw [b2]
section MK
variable {p : Program} {l : Launch} {e : Env} {R : Room} {s : State} {m : MethodId} {args : Array Value} {below : List Frame} {meth : Method} {c : Code} {H H0 : Heap} {locs : List Loc} {cells slots : Nat} {Q : State → Prop}
variable {cc : ByteArray} {pc nL : Nat} {ls : Array Slot} {rest : List Value} {Ts : List Cond} {X : Dw} {own : String} {i1 i2 : Nat}
theorem nBx (S0 : CallFix p m c cc nL s args Ts own) (hGd : GoodIn Ts wsX1_init) (hlk : va_Nw (.methodLinkNest own i2 yX1_init "PairFinder") s) (hin : ∀ w ∈ u_ws RX1 TX1 1, w ∈ Ts) (w1 : Cond.classLink own i1 RX1 ∈ Ts) (w2 : Cond.instantiable RX1 1 ∈ Ts) (w3 : Cond.initialized RX1 ∈ Ts) (w4 : Cond.instanceMethod yX1_init ∈ Ts) (hw : dwM X H s) (hI : wdI (dG X) s) (hS : va_S (g_A (dG X)) H0 H locs) (j : Nat) (hd1 : dd X 1 j = false) (hd2 : dd X 2 j = false) (hsz : ls.size = nL) (hW : (rest.map fun v => v.category).sum + 1 ≤ 8) (hR : 2 ≤ R.frames ∧ 32 ≤ R.locals) (hcells : cells + 2 ≤ R.cells) (hslots : slots + 7 ≤ R.slots) (d0 : decode cc pc = .ok (.new i1, 3)) (d3 : decode cc (pc + 3) = .ok (.dup, 1)) (d4 : decode cc (pc + 4) = .ok (.invokespecial i2, 3))
    (kk : ∀ (q : Nat) (Y : Dw) (H1 : Heap) (locs1 : List Loc), Gr X Y none2 (bxN j) → bxR Y j → q = g_ad (dG Y) 1 j → dwM Y H1 s → va_S (g_A (dG X)) H0 H1 locs1 → W p l e R s m args below meth c H1 locs1 (cells + 2) (slots + 7) Q (F0 m (pc + 7) ls (.ref q :: rest))) : W p l e R s m args below meth c H locs cells slots Q (F0 m pc ls rest) := by
  obtain ⟨hx, hb, hml, hown, hts⟩ := S0
  refine nOb (ci := 1) (fs := [.null]) hx hb hown hts hin tyX1 tyX1_ok w1 w2 w3 hw hI.1 hS 1 j hd1 rfl (fun j hj => by rcases (show j = 0 by omega) with rfl; rfl) (by omega) (by omega) d0 (fun q H hw hS => ?_)
  refine lv_dup hx hb d3 rfl ?_
  have g1 : Gr X (dN X q 1 j (.inr (1, [.null]))) none2 (one2 1 j) := Gr.new hd1
  obtain ⟨X1, hX1⟩ : ∃ z, z = dN X q 1 j (.inr (1, [.null])) := ⟨_, rfl⟩
  have e1 : g_ad (dG X1) 1 j = q := by rw [hX1]; exact dN_a
  have e2 : dd X1 1 j = true := by rw [hX1]; exact dN_d
  have e3 : dc X1 1 j = .inr (1, [.null]) := by rw [hX1]; exact dN_c
  rw [← hX1] at hw g1
  have e4 : dd X1 2 j = false := ne_f (fun z => ((g1.2.2 2 j).mp z).elim (fun y => by rw [hd2] at y; cases y) (fun y => absurd y.1 (by decide)))
  have eA : g_A (dG X1) = g_A (dG X) := g1.1.1
  have hM := c_boxI l X1 j e2 e3 e4
  rw [e1] at hM
  refine cIN (rest := .ref q :: rest) ⟨hx, hb, hml, hown, hts⟩ hM ⟨va_cnB 0 hts hGd rfl rfl rfl hlk (hts _ w3) (by decide +kernel) hR, rfl, hts _ w4⟩ hw (hI.gr g1) (by rw [eA]; exact hS) hsz ?_ d4 ⟨?_, ?_⟩ (fun Y H1 locs1 hp hw1 hS1 => ?_)
  · show 1 + (rest.map fun v => v.category).sum ≤ 8
    omega
  · show cells + 1 + 1 ≤ R.cells
    omega
  · show slots + 1 + 6 ≤ R.slots
    omega
  · obtain ⟨g2, p1, p2⟩ := hp
    rw [eA] at hS1
    have g3 : Gr X Y none2 (bxN j) := (g1.trans g2).mono (fun a b hd h => by
      rcases h with h | h
      · exact h
      · rw [h.1, h.2, hd1] at hd; cases hd) (fun a b => Iff.rfl)
    refine kk q Y H1 locs1 g3 ⟨(g2.2.2 _ _).mpr (Or.inl e2), (g2.2.2 _ _).mpr (Or.inr ⟨rfl, rfl⟩), p1, ?_⟩ (e1.symm.trans (g2.2.1 _ _ e2).1.symm) hw1 hS1
    rw [p2]
    unfold bxE
    rw [g2.1.2.1]
theorem nPs (S0 : CallFix p m c cc nL s args Ts own) (hGd : GoodIn Ts wsX2_init) (hlk : va_Nw (.methodLinkNest own i2 yX2_init "PairFinder") s) (hin : ∀ w ∈ u_ws RX2 TX2 2, w ∈ Ts) (w1 : Cond.classLink own i1 RX2 ∈ Ts) (w2 : Cond.instantiable RX2 2 ∈ Ts) (w3 : Cond.initialized RX2 ∈ Ts) (w4 : Cond.instanceMethod yX2_init ∈ Ts) (hw : dwM X H s) (hI : wdI (dG X) s) (hS : va_S (g_A (dG X)) H0 H locs) (j : Nat) (hd1 : dd X 5 j = false) (hd2 : dd X 6 j = false) (hsz : ls.size = nL) (hW : (rest.map fun v => v.category).sum + 1 ≤ 8) (hR : 2 ≤ R.frames ∧ 32 ≤ R.locals) (hcells : cells + 2 ≤ R.cells) (hslots : slots + 4098 ≤ R.slots) (d0 : decode cc pc = .ok (.new i1, 3)) (d3 : decode cc (pc + 3) = .ok (.dup, 1)) (d4 : decode cc (pc + 4) = .ok (.invokespecial i2, 3))
    (kk : ∀ (q : Nat) (Y : Dw) (H1 : Heap) (locs1 : List Loc), Gr X Y none2 (psN j) → psR Y j → q = g_ad (dG Y) 5 j → dwM Y H1 s → va_S (g_A (dG X)) H0 H1 locs1 → W p l e R s m args below meth c H1 locs1 (cells + 2) (slots + 4098) Q (F0 m (pc + 7) ls (.ref q :: rest))) : W p l e R s m args below meth c H locs cells slots Q (F0 m pc ls rest) := by
  obtain ⟨hx, hb, hml, hown, hts⟩ := S0
  refine nOb (ci := 2) (fs := [.null, .int 0]) hx hb hown hts hin tyX2 tyX2_ok w1 w2 w3 hw hI.1 hS 5 j hd1 rfl (fun j hj => by rcases (show j = 0 ∨ j = 1 by omega) with rfl | rfl <;> rfl) (by omega) (by omega) d0 (fun q H hw hS => ?_)
  refine lv_dup hx hb d3 rfl ?_
  have g1 : Gr X (dN X q 5 j (.inr (2, [.null, .int 0]))) none2 (one2 5 j) := Gr.new hd1
  obtain ⟨X1, hX1⟩ : ∃ z, z = dN X q 5 j (.inr (2, [.null, .int 0])) := ⟨_, rfl⟩
  have e1 : g_ad (dG X1) 5 j = q := by rw [hX1]; exact dN_a
  have e2 : dd X1 5 j = true := by rw [hX1]; exact dN_d
  have e3 : dc X1 5 j = .inr (2, [.null, .int 0]) := by rw [hX1]; exact dN_c
  rw [← hX1] at hw g1
  have e4 : dd X1 6 j = false := ne_f (fun z => ((g1.2.2 6 j).mp z).elim (fun y => by rw [hd2] at y; cases y) (fun y => absurd y.1 (by decide)))
  have eA : g_A (dG X1) = g_A (dG X) := g1.1.1
  have hM := c_setI l X1 j e2 e3 e4
  rw [e1] at hM
  refine cIN (rest := .ref q :: rest) ⟨hx, hb, hml, hown, hts⟩ hM ⟨va_cnB 0 hts hGd rfl rfl rfl hlk (hts _ w3) (by decide +kernel) hR, rfl, hts _ w4⟩ hw (hI.gr g1) (by rw [eA]; exact hS) hsz ?_ d4 ⟨?_, ?_⟩ (fun Y H1 locs1 hp hw1 hS1 => ?_)
  · show 1 + (rest.map fun v => v.category).sum ≤ 8
    omega
  · show cells + 1 + 1 ≤ R.cells
    omega
  · show slots + 2 + 4096 ≤ R.slots
    omega
  · obtain ⟨g2, p1, p2⟩ := hp
    rw [eA] at hS1
    have g3 : Gr X Y none2 (psN j) := (g1.trans g2).mono (fun a b hd h => by
      rcases h with h | h
      · exact h
      · rw [h.1, h.2, hd1] at hd; cases hd) (fun a b => Iff.rfl)
    refine kk q Y H1 locs1 g3 ⟨(g2.2.2 _ _).mpr (Or.inl e2), (g2.2.2 _ _).mpr (Or.inr ⟨rfl, rfl⟩), p1, ?_⟩ (e1.symm.trans (g2.2.1 _ _ e2).1.symm) hw1 hS1
    rw [p2]
    unfold psE
    rw [g2.1.2.1]
end MK
def boR (Y : Dw) (k : Nat) : Prop := dd Y 4 k = true ∧ dc Y 4 k = .inr (0, [.ref (g_ad (dG Y) 1 (2 * k + 2)), .ref (g_ad (dG Y) 1 (2 * k + 3)), .int 0, .int 0, .int 0, .int 0]) ∧ bxR Y (2 * k + 2) ∧ bxR Y (2 * k + 3)
theorem boR.keep {X Y : Dw} {E N : Nat → Nat → Prop} {k : Nat} (h : boR X k) (g : Gr X Y E N) (h1 : ¬ E 4 k) (h2 : ∀ j, ¬ E 1 j) (h3 : ∀ j, ¬ E 2 j) : boR Y k := by
  obtain ⟨a1, a2, a3, a4⟩ := h
  refine ⟨(g.2.2 _ _).mpr (Or.inl a1), ?_, a3.keep g (h2 _) (h3 _), a4.keep g (h2 _) (h3 _)⟩
  rw [(g.2.1 4 k a1).2 h1, a2, (g.2.1 1 _ a3.1).1, (g.2.1 1 _ a4.1).1]
def boN (k a b : Nat) : Prop := bxN (2 * k + 2) a b ∨ bxN (2 * k + 3) a b
def boP (X : Dw) (k : Nat) (Y : Dw) : Prop := Gr X Y (one2 4 k) (boN k) ∧ boR Y k
set_option maxRecDepth 100000 in
set_option maxHeartbeats 1000000 in
theorem c_bodyI (l : Launch) (X : Dw) (k : Nat) (hd : dd X 4 k = true) (hc : dc X 4 k = .inr (0, [.null, .null, .int 0, .int 0, .int 0, .int 0])) (h1 : ∀ j, j = 2 * k + 2 ∨ j = 2 * k + 3 → dd X 1 j = false ∧ dd X 2 j = false) : PN l yX0_init wsX0_init ({ frames := 2, cells := 4, slots := 14, locals := 32 } : Room) [.ref (g_ad (dG X) 4 k)] X (boP X k) := by
  refine entN (cc := cX0_init) (maxL := 1) (ret := none) (by decide) rfl (Nat.le_of_ble_eq_true rfl) ?_
  intro p e s m below meth c ls C hnm hw hI hS hl
  obtain ⟨hx, hb, hr, hml, hown, hts, hlk⟩ := C
  have hl : lv_has ls 1 [(0, .ref (g_ad (dG X) 4 k))] := hl
  refine lv_aload_n hx hb dX0_init_0 rfl (lv_at hl 0 rfl) ?_
  refine obN hx hb hml hown hts (List.mem_of_getElem? (i := 1) rfl) (List.mem_of_getElem? (i := 2) rfl) (List.mem_of_getElem? (i := 3) rfl) hl.1 dX0_init_1 (Nat.le_of_ble_eq_true rfl) (Nat.le_of_ble_eq_true rfl) ?_
  refine lv_aload_n hx hb dX0_init_4 rfl (lv_at hl 0 rfl) ?_
  refine nBx ⟨hx, hb, hml, hown, hts⟩ gX0_init_X1_init_n9 hI.2.1 (fun _ h => List.mem_cons_of_mem _ (List.mem_append_left _ (List.mem_append_right _ h))) (List.mem_of_getElem? (i := 4) rfl) (List.mem_of_getElem? (i := 5) rfl) (List.mem_of_getElem? (i := 6) rfl) (List.mem_of_getElem? (i := 9) rfl) hw hI hS (2 * k + 2) (h1 _ (Or.inl rfl)).1 (h1 _ (Or.inl rfl)).2 hl.1 (Nat.le_of_ble_eq_true rfl) ⟨(Nat.le_of_ble_eq_true rfl), (Nat.le_of_ble_eq_true rfl)⟩ (Nat.le_of_ble_eq_true rfl) (Nat.le_of_ble_eq_true rfl) dX0_init_5 dX0_init_8 dX0_init_9 (fun q1 Y1 H locs g1 r1 e1 hw hS => ?_)
  have d1 : dd Y1 4 k = true := (g1.2.2 4 k).mpr (Or.inl hd)
  have c1 : dc Y1 4 k = .inr (0, [.null, .null, .int 0, .int 0, .int 0, .int 0]) := ((g1.2.1 4 k hd).2 (fun z => z)).trans hc
  have i1 := hI.gr g1
  have eA1 := g1.1.1
  refine pfN (X := Y1) (ci := 0) (fs := [.null, .null, .int 0, .int 0, .int 0, .int 0]) hx hb hown hts hw i1.1 (by rw [eA1]; exact hS) 4 k d1 c1 rfl (fun _ h => List.mem_cons_of_mem _ (List.mem_append_right _ h)) tyX0 tyX0_ok nmX0 0 (by decide) (List.mem_of_getElem? (i := 7) rfl) (Or.inr ⟨hnm, rfl⟩) (ty := .object "PairFinder$Box") (by decide +kernel) rfl rfl (Nat.le_of_ble_eq_true rfl) (g1.2.1 4 k hd).1.symm dX0_init_12 (fun H locs hw hS => ?_)
  have g2 : Gr Y1 (dP Y1 4 k (.inr (0, [.ref q1, .null, .int 0, .int 0, .int 0, .int 0]))) (one2 4 k) none2 := Gr.put
  have c2 : dc (dP Y1 4 k (.inr (0, [.ref q1, .null, .int 0, .int 0, .int 0, .int 0]))) 4 k = .inr (0, [.ref q1, .null, .int 0, .int 0, .int 0, .int 0]) := dP_c
  have hw : dwM (dP Y1 4 k (.inr (0, [.ref q1, .null, .int 0, .int 0, .int 0, .int 0]))) H s := hw
  obtain ⟨Y2, hY2⟩ : ∃ z, z = dP Y1 4 k (.inr (0, [.ref q1, .null, .int 0, .int 0, .int 0, .int 0])) := ⟨_, rfl⟩
  rw [← hY2] at hw g2 c2
  have d2 : dd Y2 4 k = true := (g2.2.2 4 k).mpr (Or.inl d1)
  have r2 : bxR Y2 (2 * k + 2) := r1.keep g2 (fun z => absurd z.1 (by decide)) (fun z => absurd z.1 (by decide))
  have i2 := i1.gr g2
  have eA2 : g_A (dG Y2) = g_A (dG X) := g2.1.1.trans eA1
  have f2 : ∀ a, (a = 1 ∨ a = 2) → dd Y2 a (2 * k + 3) = false := fun a ha => ne_f (fun z => by
    rcases (g2.2.2 a _).mp z with z | z
    · rcases (g1.2.2 a _).mp z with z | z
      · rcases ha with rfl | rfl
        · rw [(h1 _ (Or.inr rfl)).1] at z; cases z
        · rw [(h1 _ (Or.inr rfl)).2] at z; cases z
      · rcases z with z | z <;> omega
    · exact z)
  have hS : va_S (g_A (dG Y2)) s.heap H locs := by rw [eA2]; rw [eA1] at hS; exact hS
  refine lv_aload_n hx hb dX0_init_15 rfl (lv_at hl 0 rfl) ?_
  refine nBx ⟨hx, hb, hml, hown, hts⟩ gX0_init_X1_init_n9 hI.2.1 (fun _ h => List.mem_cons_of_mem _ (List.mem_append_left _ (List.mem_append_right _ h))) (List.mem_of_getElem? (i := 4) rfl) (List.mem_of_getElem? (i := 5) rfl) (List.mem_of_getElem? (i := 6) rfl) (List.mem_of_getElem? (i := 9) rfl) hw i2 hS (2 * k + 3) (f2 1 (Or.inl rfl)) (f2 2 (Or.inr rfl)) hl.1 (Nat.le_of_ble_eq_true rfl) ⟨(Nat.le_of_ble_eq_true rfl), (Nat.le_of_ble_eq_true rfl)⟩ (Nat.le_of_ble_eq_true rfl) (Nat.le_of_ble_eq_true rfl) dX0_init_16 dX0_init_19 dX0_init_20 (fun q3 Y3 H locs g3 r3 e3 hw hS => ?_)
  have d3 : dd Y3 4 k = true := (g3.2.2 4 k).mpr (Or.inl d2)
  have c3 : dc Y3 4 k = .inr (0, [.ref q1, .null, .int 0, .int 0, .int 0, .int 0]) := ((g3.2.1 4 k d2).2 (fun z => z)).trans c2
  have i3 := i2.gr g3
  have eA3 := g3.1.1
  have a3 : g_ad (dG X) 4 k = g_ad (dG Y3) 4 k := by rw [(g3.2.1 4 k d2).1, (g2.2.1 4 k d1).1, (g1.2.1 4 k hd).1]
  refine pfN (X := Y3) (ci := 0) (fs := [.ref q1, .null, .int 0, .int 0, .int 0, .int 0]) hx hb hown hts hw i3.1 (by rw [eA3]; exact hS) 4 k d3 c3 rfl (fun _ h => List.mem_cons_of_mem _ (List.mem_append_right _ h)) tyX0 tyX0_ok nmX0 1 (by decide) (List.mem_of_getElem? (i := 8) rfl) (Or.inr ⟨hnm, rfl⟩) (ty := .object "PairFinder$Box") (by decide +kernel) rfl rfl (Nat.le_of_ble_eq_true rfl) a3 dX0_init_23 (fun H locs hw hS => ?_)
  have g4 : Gr Y3 (dP Y3 4 k (.inr (0, [.ref q1, .ref q3, .int 0, .int 0, .int 0, .int 0]))) (one2 4 k) none2 := Gr.put
  have c4 : dc (dP Y3 4 k (.inr (0, [.ref q1, .ref q3, .int 0, .int 0, .int 0, .int 0]))) 4 k = .inr (0, [.ref q1, .ref q3, .int 0, .int 0, .int 0, .int 0]) := dP_c
  have hw : dwM (dP Y3 4 k (.inr (0, [.ref q1, .ref q3, .int 0, .int 0, .int 0, .int 0]))) H s := hw
  obtain ⟨Y4, hY4⟩ : ∃ z, z = dP Y3 4 k (.inr (0, [.ref q1, .ref q3, .int 0, .int 0, .int 0, .int 0])) := ⟨_, rfl⟩
  rw [← hY4] at hw g4 c4
  have r4 : bxR Y4 (2 * k + 3) := r3.keep g4 (fun z => absurd z.1 (by decide)) (fun z => absurd z.1 (by decide))
  have r5 : bxR Y4 (2 * k + 2) := (r2.keep g3 (fun z => z) (fun z => z)).keep g4 (fun z => absurd z.1 (by decide)) (fun z => absurd z.1 (by decide))
  have hS : va_S (g_A (dG X)) s.heap H locs := by rw [eA3, eA2] at hS; exact hS
  refine rvN hx hb hlk hr (Y := Y4) ⟨(((g1.trans g2).trans g3).trans g4).mono (fun a b _ h => ?_) (fun a b => ?_), (g4.2.2 4 k).mpr (Or.inl d3), ?_, r5, r4⟩ hw hS (Nat.le_of_ble_eq_true rfl) (Nat.le_of_ble_eq_true rfl) dX0_init_26
  · rcases h with ((h | h) | h) | h
    · exact h.elim
    · exact h
    · exact h.elim
    · exact h
  · constructor
    · rintro (((h | h) | h) | h)
      · exact Or.inl h
      · exact h.elim
      · exact Or.inr h
      · exact h.elim
    · rintro (h | h)
      · exact Or.inl (Or.inl (Or.inl h))
      · exact Or.inl (Or.inr h)
  · rw [c4, e3, e1, (g4.2.1 1 _ r3.1).1, (g4.2.1 1 _ (r2.keep g3 (fun z => z) (fun z => z)).1).1, (g3.2.1 1 _ r2.1).1, (g2.2.1 1 _ r1.1).1]
