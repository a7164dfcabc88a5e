/-! Constructor of PairFinder -/
section MB
variable {p : Program} {l : Launch} {e : Env} {R : Room} {s : State} {m : MethodId} {args : Array Value} {below : List Frame} {meth : Method} {c : Code} {H H0 : Heap} {locs : List Loc} {cells slots : Nat} {Q : State → Prop}
variable {cc : ByteArray} {pc nL : Nat} {ls : Array Slot} {rest : List Value} {Ts : List Cond} {X : Dw} {own : String} {i1 i2 : Nat}
theorem nBo (S0 : CallFix p m c cc nL s args Ts own) (hGd : GoodIn Ts wsX0_init) (hlk : va_Nw (.methodLinkNest own i2 yX0_init "PairFinder") s) (hin : ∀ w ∈ u_ws RX0 TX0 6, w ∈ Ts) (w1 : Cond.classLink own i1 RX0 ∈ Ts) (w2 : Cond.instantiable RX0 6 ∈ Ts) (w3 : Cond.initialized RX0 ∈ Ts) (w4 : Cond.instanceMethod yX0_init ∈ Ts) (hw : dwM X H s) (hI : wdI (dG X) s) (hS : va_S (g_A (dG X)) H0 H locs) (j : Nat) (hd1 : dd X 4 j = false) (hd2 : ∀ q, q = 2 * j + 2 ∨ q = 2 * j + 3 → dd X 1 q = false ∧ dd X 2 q = false) (hsz : ls.size = nL) (hW : (rest.map fun v => v.category).sum + 1 ≤ 8) (hR : 3 ≤ R.frames ∧ 52 ≤ R.locals) (hcells : cells + 5 ≤ R.cells) (hslots : slots + 20 ≤ R.slots) (d0 : decode cc pc = .ok (.new i1, 3)) (d3 : decode cc (pc + 3) = .ok (.dup, 1)) (d4 : decode cc (pc + 4) = .ok (.invokespecial i2, 3))
    (kk : ∀ (q : Nat) (Y : Dw) (H1 : Heap) (locs1 : List Loc), Gr X Y none2 (fun a b => one2 4 j a b ∨ boN j a b) → boR Y j → q = g_ad (dG Y) 4 j → dwM Y H1 s → va_S (g_A (dG X)) H0 H1 locs1 → W p l e R s m args below meth c H1 locs1 (cells + 5) (slots + 20) Q (F0 m (pc + 7) ls (.ref q :: rest))) : W p l e R s m args below meth c H locs cells slots Q (F0 m pc ls rest) := by
  obtain ⟨hx, hb, hml, hown, hts⟩ := S0
  refine nOb (ci := 0) (fs := [.null, .null, .int 0, .int 0, .int 0, .int 0]) hx hb hown hts hin tyX0 tyX0_ok w1 w2 w3 hw hI.1 hS 4 j hd1 rfl (fun j hj => by rcases (show j = 0 ∨ j = 1 ∨ j = 2 ∨ j = 3 ∨ j = 4 ∨ j = 5 by omega) with rfl | rfl | rfl | rfl | rfl | rfl <;> rfl) (by omega) (by omega) d0 (fun q H hw hS => ?_)
  refine lv_dup hx hb d3 rfl ?_
  have g1 : Gr X (dN X q 4 j (.inr (0, [.null, .null, .int 0, .int 0, .int 0, .int 0]))) none2 (one2 4 j) := Gr.new hd1
  obtain ⟨X1, hX1⟩ : ∃ z, z = dN X q 4 j (.inr (0, [.null, .null, .int 0, .int 0, .int 0, .int 0])) := ⟨_, rfl⟩
  have e1 : g_ad (dG X1) 4 j = q := by rw [hX1]; exact dN_a
  have e2 : dd X1 4 j = true := by rw [hX1]; exact dN_d
  have e3 : dc X1 4 j = .inr (0, [.null, .null, .int 0, .int 0, .int 0, .int 0]) := by rw [hX1]; exact dN_c
  rw [← hX1] at hw g1
  have e4 : ∀ z, z = 2 * j + 2 ∨ z = 2 * j + 3 → dd X1 1 z = false ∧ dd X1 2 z = false := fun z hz => ⟨ne_f (fun y => ((g1.2.2 1 z).mp y).elim (fun y => by rw [(hd2 z hz).1] at y; cases y) (fun y => absurd y.1 (by decide))), ne_f (fun y => ((g1.2.2 2 z).mp y).elim (fun y => by rw [(hd2 z hz).2] at y; cases y) (fun y => absurd y.1 (by decide)))⟩
  have eA : g_A (dG X1) = g_A (dG X) := g1.1.1
  have hM := c_bodyI l X1 j e2 e3 e4
  rw [e1] at hM
  refine cIN (rest := .ref q :: rest) ⟨hx, hb, hml, hown, hts⟩ hM ⟨va_cnB 0 hts hGd rfl rfl rfl hlk (hts _ w3) (by decide +kernel) hR, rfl, hts _ w4⟩ hw (hI.gr g1) (by rw [eA]; exact hS) hsz ?_ d4 ⟨?_, ?_⟩ (fun Y H1 locs1 hp hw1 hS1 => ?_)
  · show 1 + (rest.map fun v => v.category).sum ≤ 8
    omega
  · show cells + 1 + 4 ≤ R.cells
    omega
  · show slots + 6 + 14 ≤ R.slots
    omega
  · obtain ⟨g2, p1⟩ := hp
    rw [eA] at hS1
    have g3 : Gr X Y none2 (fun a b => one2 4 j a b ∨ boN j a b) := (g1.trans g2).mono (fun a b hd h => by
      rcases h with h | h
      · exact h
      · rw [h.1, h.2, hd1] at hd; cases hd) (fun a b => Iff.rfl)
    exact kk q Y H1 locs1 g3 p1 (e1.symm.trans (g2.2.1 _ _ e2).1.symm) hw1 hS1
end MB
def pfA (i a b : Nat) : Prop := (((a = 1 ∧ b = 0) ∨ (a = 2 ∧ b = 0)) ∨ (a = 3 ∧ b = 0)) ∨ (a = 4 ∧ b < i) ∨ ((a = 1 ∨ a = 2) ∧ 2 ≤ b ∧ b < 2 * i + 2)
def pfN9 (a b : Nat) : Prop := (((((((pfA 512 a b) ∨ ((a = 5 ∧ b = 0) ∨ (a = 6 ∧ b = 0))) ∨ ((a = 5 ∧ b = 1) ∨ (a = 6 ∧ b = 1))) ∨ ((a = 5 ∧ b = 2) ∨ (a = 6 ∧ b = 2))) ∨ ((a = 5 ∧ b = 3) ∨ (a = 6 ∧ b = 3))) ∨ (a = 7 ∧ b = 0)) ∨ (a = 8 ∧ b = 0)) ∨ ((a = 1 ∧ b = 1) ∨ (a = 2 ∧ b = 1))
def pfP (X Y : Dw) : Prop := Gr X Y (one2 0 0) pfN9 ∧ dc Y 0 0 = .inr (3, [.ref (g_ad (dG Y) 1 0), .ref (g_ad (dG Y) 3 0), .int 0, .ref (g_ad (dG Y) 5 0), .ref (g_ad (dG Y) 5 1), .ref (g_ad (dG Y) 5 2), .ref (g_ad (dG Y) 5 3), .int 0, .ref (g_ad (dG Y) 7 0), .ref (g_ad (dG Y) 8 0), .int 0, .ref (g_ad (dG Y) 1 1)]) ∧ bxR Y 0 ∧ bxR Y 1 ∧ psR Y 0 ∧ psR Y 1 ∧ psR Y 2 ∧ psR Y 3 ∧ arR X Y 7 0 1 (512, .inl (fun _ => 0)) ∧ arR X Y 8 0 0 (512, .inr (.inr (.inl (fun _ => 0)))) ∧ (∀ k, k < 512 → boR Y k) ∧ ∃ f : Nat → Option Nat, arR X Y 3 0 5 (512, .inr (.inr (.inr (.inr f)))) ∧ ∀ b, b < 512 → f b = some (g_ad (dG Y) 4 b)
set_option maxRecDepth 100000 in
set_option maxHeartbeats 2000000 in
theorem c_pfI (l : Launch) (X : Dw) (hd : dd X 0 0 = true) (hc : dc X 0 0 = .inr (3, [.null, .null, .int 0, .null, .null, .null, .null, .int 0, .null, .null, .int 0, .null])) (hfr : ∀ a b, 1 ≤ a → a ≤ 8 → dd X a b = false) : PN l yX3_init wsX3_init ({ frames := 3, cells := 2575, slots := 28182, locals := 52 } : Room) [.ref (g_ad (dG X) 0 0)] X (pfP X) := by
  refine entN (cc := cX3_init) (maxL := 2) (ret := none) (by decide) rfl (Nat.le_of_ble_eq_true rfl) ?_
  intro p e s m below meth c ls C hnm hw hI hS hl
  obtain ⟨hx, hb, hr, hml, hown, hts, hlk⟩ := C
  have hl : lv_has ls 2 [(0, .ref (g_ad (dG X) 0 0))] := hl
  refine lv_aload_n hx hb dX3_init_0 rfl (lv_at hl 0 rfl) ?_
  refine obN hx hb hml hown hts (List.mem_of_getElem? (i := 1) rfl) (List.mem_of_getElem? (i := 2) rfl) (List.mem_of_getElem? (i := 3) rfl) hl.1 dX3_init_1 (Nat.le_of_ble_eq_true rfl) (Nat.le_of_ble_eq_true rfl) ?_
  have G0 : Gr X X (one2 0 0) (fun a b => False) := (Gr.refl X).mono (fun _ _ _ h => h.elim) (fun _ _ => Iff.rfl)
  have I0 := hI
  have a0 : g_ad (dG X) 0 0 = g_ad (dG X) 0 0 := rfl
  have d0 := hd
  have c0 := hc
  refine lv_aload_n hx hb dX3_init_4 rfl (lv_at hl 0 rfl) ?_
  have fz1 : dd X 1 0 = false := ne_f (fun z => by
    rcases (G0.2.2 1 0).mp z with y | y
    · rw [hfr 1 _ (by decide) (by decide)] at y; cases y
    · exact absurd y (by decide))
  have fz2 : dd X 2 0 = false := ne_f (fun z => by
    rcases (G0.2.2 2 0).mp z with y | y
    · rw [hfr 2 _ (by decide) (by decide)] at y; cases y
    · exact absurd y (by decide))
  refine nBx ⟨hx, hb, hml, hown, hts⟩ gX3_init_X1_init_n9 I0.2.2.1 (fun _ h => List.mem_cons_of_mem _ (List.mem_append_left _ (List.mem_append_left _ (List.mem_append_left _ (List.mem_append_right _ h))))) (List.mem_of_getElem? (i := 4) rfl) (List.mem_of_getElem? (i := 5) rfl) (List.mem_of_getElem? (i := 6) rfl) (List.mem_of_getElem? (i := 24) rfl) hw I0 hS 0 fz1 fz2 hl.1 (Nat.le_of_ble_eq_true rfl) ⟨(Nat.le_of_ble_eq_true rfl), (Nat.le_of_ble_eq_true rfl)⟩ (Nat.le_of_ble_eq_true rfl) (Nat.le_of_ble_eq_true rfl) dX3_init_5 dX3_init_8 dX3_init_9 (fun q1_0 Z H locs gz rq1_0 eq1_0 hw hS => ?_)
  have dz := (gz.2.2 0 0).mpr (Or.inl d0)
  have cz := ((gz.2.1 0 0 d0).2 (fun z => z)).trans c0
  have az := ad_keep a0 d0 gz
  have Iz := I0.gr gz
  have hS := va_SA gz.1.1 hS
  refine pfN (X := Z) (ci := 3) (fs := [.null, .null, .int 0, .null, .null, .null, .null, .int 0, .null, .null, .int 0, .null]) hx hb hown hts hw Iz.1 hS 0 0 dz cz rfl (fun _ h => List.mem_cons_of_mem _ (List.mem_append_left _ (List.mem_append_left _ (List.mem_append_right _ h)))) tyX3 tyX3_ok nmX3 0 (by decide) (List.mem_of_getElem? (i := 7) rfl) (Or.inr ⟨hnm, rfl⟩) (ty := .object "PairFinder$Box") (by decide +kernel) rfl rfl (Nat.le_of_ble_eq_true rfl) az dX3_init_12 (fun H locs hw hS => ?_)
  have gp : Gr Z (dP Z 0 0 (.inr (3, [.ref q1_0, .null, .int 0, .null, .null, .null, .null, .int 0, .null, .null, .int 0, .null]))) (one2 0 0) none2 := Gr.put
  have c1 : dc (dP Z 0 0 (.inr (3, [.ref q1_0, .null, .int 0, .null, .null, .null, .null, .int 0, .null, .null, .int 0, .null]))) 0 0 = .inr (3, [.ref q1_0, .null, .int 0, .null, .null, .null, .null, .int 0, .null, .null, .int 0, .null]) := dP_c
  have hw : dwM (dP Z 0 0 (.inr (3, [.ref q1_0, .null, .int 0, .null, .null, .null, .null, .int 0, .null, .null, .int 0, .null]))) H s := hw
  obtain ⟨Y1, hY1⟩ : ∃ z, z = dP Z 0 0 (.inr (3, [.ref q1_0, .null, .int 0, .null, .null, .null, .null, .int 0, .null, .null, .int 0, .null])) := ⟨_, rfl⟩
  rw [← hY1] at hw gp c1
  have g1 : Gr X Y1 (one2 0 0) (fun a b => (a = 1 ∧ b = 0) ∨ (a = 2 ∧ b = 0)) := (gz.trans gp).mono (fun a b _ h => h.elim False.elim id) (fun a b => (by constructor <;> intro h <;> (try simp only [none2, one2, bxN, psN, or_false, false_or] at h ⊢) <;> omega))
  have G1 : Gr X Y1 (one2 0 0) (fun a b => (False) ∨ ((a = 1 ∧ b = 0) ∨ (a = 2 ∧ b = 0))) := (G0.trans g1).mono (fun a b _ h => h.elim id id) (fun _ _ => Iff.rfl)
  have d1 := (g1.2.2 0 0).mpr (Or.inl d0)
  have a1 := ad_keep a0 d0 g1
  have I1 := I0.gr g1
  have hS := va_SA gp.1.1 hS
  have eq1_0 := ad_keep eq1_0 rq1_0.1 gp
  have rq1_0 := rq1_0.keep gp (fun z => absurd z.1 (by decide)) (fun z => absurd z.1 (by decide))
  refine lv_aload_n hx hb dX3_init_15 rfl (lv_at hl 0 rfl) ?_
  refine lv_sipush (v := nI 512) hx hb dX3_init_16 (by decide) ?_
  have fz : dd Y1 3 0 = false := ne_f (fun z => by
    rcases (G1.2.2 3 0).mp z with y | y
    · rw [hfr 3 _ (by decide) (by decide)] at y; cases y
    · exact absurd y (by decide))
  refine nAq hx hb hown hts (List.mem_of_getElem? (i := 8) rfl) hw I1 hS 3 0 fz (Nat.le_of_ble_eq_true rfl) (Nat.le_of_ble_eq_true rfl) dX3_init_19 (fun q3_0 H hw hS => ?_)
  have gz : Gr Y1 (dN Y1 q3_0 3 0 (.inl (g_cy (dG Y1) 5, 512, .inr (.inr (.inr (.inr (fun _ => none))))))) none2 (one2 3 0) := Gr.new fz
  have eq3_0 : q3_0 = g_ad (dG (dN Y1 q3_0 3 0 (.inl (g_cy (dG Y1) 5, 512, .inr (.inr (.inr (.inr (fun _ => none)))))))) 3 0 := dN_a.symm
  have rq3_0 : arR X (dN Y1 q3_0 3 0 (.inl (g_cy (dG Y1) 5, 512, .inr (.inr (.inr (.inr (fun _ => none))))))) 3 0 5 (512, .inr (.inr (.inr (.inr (fun _ => none))))) := ⟨dN_d, by rw [dN_c, G1.1.2.1]⟩
  obtain ⟨Z, hZ⟩ : ∃ z, z = dN Y1 q3_0 3 0 (.inl (g_cy (dG Y1) 5, 512, .inr (.inr (.inr (.inr (fun _ => none)))))) := ⟨_, rfl⟩
  rw [← hZ] at hw gz eq3_0 rq3_0
  have dz := (gz.2.2 0 0).mpr (Or.inl d1)
  have cz := ((gz.2.1 0 0 d1).2 (fun z => z)).trans c1
  have az := ad_keep a1 d1 gz
  have Iz := I1.gr gz
  have hS := va_SA gz.1.1 hS
  refine pfN (X := Z) (ci := 3) (fs := [.ref q1_0, .null, .int 0, .null, .null, .null, .null, .int 0, .null, .null, .int 0, .null]) hx hb hown hts hw Iz.1 hS 0 0 dz cz rfl (fun _ h => List.mem_cons_of_mem _ (List.mem_append_left _ (List.mem_append_left _ (List.mem_append_right _ h)))) tyX3 tyX3_ok nmX3 1 (by decide) (List.mem_of_getElem? (i := 9) rfl) (Or.inr ⟨hnm, rfl⟩) (ty := .array (.object "PairFinder$Body")) (by decide +kernel) rfl rfl (Nat.le_of_ble_eq_true rfl) az dX3_init_22 (fun H locs hw hS => ?_)
  have gp : Gr Z (dP Z 0 0 (.inr (3, [.ref q1_0, .ref q3_0, .int 0, .null, .null, .null, .null, .int 0, .null, .null, .int 0, .null]))) (one2 0 0) none2 := Gr.put
  have c2 : dc (dP Z 0 0 (.inr (3, [.ref q1_0, .ref q3_0, .int 0, .null, .null, .null, .null, .int 0, .null, .null, .int 0, .null]))) 0 0 = .inr (3, [.ref q1_0, .ref q3_0, .int 0, .null, .null, .null, .null, .int 0, .null, .null, .int 0, .null]) := dP_c
  have hw : dwM (dP Z 0 0 (.inr (3, [.ref q1_0, .ref q3_0, .int 0, .null, .null, .null, .null, .int 0, .null, .null, .int 0, .null]))) H s := hw
  obtain ⟨Y2, hY2⟩ : ∃ z, z = dP Z 0 0 (.inr (3, [.ref q1_0, .ref q3_0, .int 0, .null, .null, .null, .null, .int 0, .null, .null, .int 0, .null])) := ⟨_, rfl⟩
  rw [← hY2] at hw gp c2
  have g2 : Gr Y1 Y2 (one2 0 0) (fun a b => (a = 3 ∧ b = 0)) := (gz.trans gp).mono (fun a b _ h => h.elim False.elim id) (fun a b => (by constructor <;> intro h <;> (try simp only [none2, one2, bxN, psN, or_false, false_or] at h ⊢) <;> omega))
  have G2 : Gr X Y2 (one2 0 0) (fun a b => ((False) ∨ ((a = 1 ∧ b = 0) ∨ (a = 2 ∧ b = 0))) ∨ (a = 3 ∧ b = 0)) := (G1.trans g2).mono (fun a b _ h => h.elim id id) (fun _ _ => Iff.rfl)
  have d2 := (g2.2.2 0 0).mpr (Or.inl d1)
  have a2 := ad_keep a1 d1 g2
  have I2 := I1.gr g2
  have hS := va_SA gp.1.1 hS
  have eq1_0 := ad_keep eq1_0 rq1_0.1 g2
  have rq1_0 := rq1_0.keep g2 (fun z => absurd z.1 (by decide)) (fun z => absurd z.1 (by decide))
  have eq3_0 := ad_keep eq3_0 rq3_0.1 gp
  have rq3_0 := rq3_0.keep gp (fun z => absurd z.1 (by decide))
  refine lv_iconst (v := nI 0) hx hb dX3_init_25 (by decide) ?_
  refine lv_istore_n (lv' := [(1, .int (nI 0)), (0, .ref (g_ad (dG X) 0 0))]) hx hb dX3_init_26 rfl hl (by decide) rfl (fun ls hl => ?_)
  have LOOP : ∀ (n9 i : Nat) (Y2 : Dw) (f9 : Nat → Option Nat) (H : Heap) (locs : List Loc) (ls : Array Slot), i + n9 = 512 → Gr X Y2 (one2 0 0) (pfA i) → dd Y2 0 0 = true → dc Y2 0 0 = .inr (3, [.ref q1_0, .ref q3_0, .int 0, .null, .null, .null, .null, .int 0, .null, .null, .int 0, .null]) → g_ad (dG X) 0 0 = g_ad (dG Y2) 0 0 → wdI (dG Y2) s → bxR Y2 0 → q1_0 = g_ad (dG Y2) 1 0 → arR X Y2 3 0 5 (512, .inr (.inr (.inr (.inr f9)))) → q3_0 = g_ad (dG Y2) 3 0 → (∀ b, b < i → f9 b = some (g_ad (dG Y2) 4 b)) → (∀ b, b < i → boR Y2 b) → dwM Y2 H s → va_S (g_A (dG Y2)) s.heap H locs → lv_has ls 2 [(1, .int (nI i)), (0, .ref (g_ad (dG X) 0 0))] → W p l e ({ frames := 3, cells := 2575, slots := 28182, locals := 52 } : Room) s m ([.ref (g_ad (dG X) 0 0)] : List Value).toArray below meth c H locs (3 + 5 * i) (519 + 20 * i) (MQ below (va_Qv (pfP X) dM (g_A (dG X))) ([.ref (g_ad (dG X) 0 0)] : List Value).toArray s ({ frames := 3, cells := 2575, slots := 28182, locals := 52 } : Room).cells ({ frames := 3, cells := 2575, slots := 28182, locals := 52 } : Room).slots (g_A (dG X))) (F0 m 27 ls []) := by
    intro n9
    induction n9 with
    | succ n9 ih =>
      intro i Y2 f9 H locs ls hn9 G2 d2 c2 a2 I2 rq1_0 eq1_0 rq3_0 eq3_0 hf9 bo9 hw hS hl
      have hi : i < 512 := by omega
      refine lv_iload_n hx hb dX3_init_27 rfl (lv_at hl 0 rfl) ?_
      refine lv_sipush (v := nI 512) hx hb dX3_init_28 (by decide) ?_
      refine lv_icmp_ge (tgt := 53) hx hb dX3_init_31 (by decide) (fun q => absurd q (nI_ge hi (by decide))) (fun _ => ?_)
      refine lv_aload_n hx hb dX3_init_34 rfl (lv_at hl 1 rfl) ?_
      refine gfN (ci := 3) (fs := [.ref q1_0, .ref q3_0, .int 0, .null, .null, .null, .null, .int 0, .null, .null, .int 0, .null]) hx hb hown hts hw I2.1 0 0 d2 c2 rfl (fun _ h => List.mem_cons_of_mem _ (List.mem_append_left _ (List.mem_append_left _ (List.mem_append_right _ h)))) 1 (by decide) (List.mem_of_getElem? (i := 9) rfl) (v := .ref q3_0) rfl a2 dX3_init_35 ?_
      refine lv_iload_n hx hb dX3_init_38 rfl (lv_at hl 0 rfl) ?_
      have fr : ∀ a b, 1 ≤ a → a ≤ 8 → ¬ pfA i a b → dd Y2 a b = false := fun a b h1 h8 h => ne_f (fun z => ((G2.2.2 a b).mp z).elim (fun y => by rw [hfr a b h1 h8] at y; cases y) h)
      refine nBo ⟨hx, hb, hml, hown, hts⟩ gX3_init_X0_init_n22 I2.2.2.2.1 (fun _ h => List.mem_cons_of_mem _ (List.mem_append_left _ (List.mem_append_right _ h))) (List.mem_of_getElem? (i := 8) rfl) (List.mem_of_getElem? (i := 10) rfl) (List.mem_of_getElem? (i := 11) rfl) (List.mem_of_getElem? (i := 28) rfl) hw I2 hS i (fr 4 i (by decide) (by decide) (by unfold pfA; omega)) (fun z hz => ⟨fr 1 z (by decide) (by decide) (by unfold pfA; omega), fr 2 z (by decide) (by decide) (by unfold pfA; omega)⟩) hl.1 (Nat.le_of_ble_eq_true rfl) ⟨(Nat.le_of_ble_eq_true rfl), (Nat.le_of_ble_eq_true rfl)⟩ (by show 3 + 5 * i + 5 ≤ 2575; omega) (by show 519 + 20 * i + 20 ≤ 28182; omega) dX3_init_39 dX3_init_42 dX3_init_43 (fun q4 Z H locs gz rb eb hw hS => ?_)
      have Iz := I2.gr gz
      have hS := va_SA gz.1.1 hS
      have r3z := rq3_0.keep gz (fun z => z)
      have e3z := ad_keep eq3_0 rq3_0.1 gz
      have cyz : g_cy (dG Z) = g_cy (dG X) := gz.1.2.1.trans G2.1.2.1
      refine asN (X := Z) hx hb hw Iz.1 hS (f := f9) r3z.1 (by rw [cyz]; exact r3z.2) i hi rb.1 rb.2.1 e3z eb dX3_init_46 (fun H locs hw hS => ?_)
      have gp : Gr Z (dP Z 3 0 (.inl (g_cy (dG Z) 5, 512, .inr (.inr (.inr (.inr (va_up f9 i (some q4)))))))) (one2 3 0) none2 := Gr.put
      have cp : dc (dP Z 3 0 (.inl (g_cy (dG Z) 5, 512, .inr (.inr (.inr (.inr (va_up f9 i (some q4)))))))) 3 0 = .inl (g_cy (dG Z) 5, 512, .inr (.inr (.inr (.inr (va_up f9 i (some q4)))))) := dP_c
      obtain ⟨V, hV⟩ : ∃ z, z = dP Z 3 0 (.inl (g_cy (dG Z) 5, 512, .inr (.inr (.inr (.inr (va_up f9 i (some q4))))))) := ⟨_, rfl⟩
      rw [← hV] at hw gp cp
      have g : Gr Y2 V (one2 3 0) (fun a b => one2 4 i a b ∨ boN i a b) := (gz.trans gp).mono (fun a b _ h => h.elim False.elim id) (fun a b => ⟨fun h => h.elim id False.elim, Or.inl⟩)
      have hS := va_SA gp.1.1 hS
      refine lv_iinc (v := nI (i + 1)) (lv' := [(1, .int (nI (i + 1))), (0, .ref (g_ad (dG X) 0 0))]) hx hb dX3_init_47 hl (k := 0) rfl (nI_add i 1) (by decide) rfl (fun ls hl => ?_)
      refine lv_goto (tgt := 27) hx hb dX3_init_50 (by decide) ?_
      refine W.widen (k := 3 + 5 * (i + 1)) (n := 519 + 20 * (i + 1)) (by omega) (by omega) ?_
      refine ih (i + 1) V (va_up f9 i (some q4)) H locs ls (by omega) ((G2.trans g).mono (fun a b hd h => h.elim id (fun y => by rw [y.1, y.2, hfr 3 0 (by decide) (by decide)] at hd; cases hd)) (fun a b => by simp only [pfA, one2, boN, bxN]; omega)) ((g.2.2 0 0).mpr (Or.inl d2)) (((g.2.1 0 0 d2).2 (fun z => absurd z.1 (by decide))).trans c2) (ad_keep a2 d2 g) (I2.gr g) (rq1_0.keep g (fun z => absurd z.1 (by decide)) (fun z => absurd z.1 (by decide))) (ad_keep eq1_0 rq1_0.1 g) ⟨(g.2.2 3 0).mpr (Or.inl rq3_0.1), by rw [cp, cyz]⟩ (ad_keep eq3_0 rq3_0.1 g) (fun b hb => ?_) (fun b hb => ?_) hw hS hl
      · by_cases q : b = i
        · subst q; rw [va_up_self, eb, (gp.2.1 4 b rb.1).1]
        · rw [va_up_ne _ _ q, hf9 b (by omega), (g.2.1 4 b (bo9 b (by omega)).1).1]
      · by_cases q : b = i
        · subst q; exact rb.keep gp (fun z => absurd z.1 (by decide)) (fun _ => (fun z => absurd z.1 (by decide))) (fun _ => (fun z => absurd z.1 (by decide)))
        · exact (bo9 b (by omega)).keep g (fun z => absurd z.1 (by decide)) (fun _ => (fun z => absurd z.1 (by decide))) (fun _ => (fun z => absurd z.1 (by decide)))
    | zero =>
      intro i Y2 f9 H locs ls hn9 G2 d2 c2 a2 I2 rq1_0 eq1_0 rq3_0 eq3_0 hf9 bo9 hw hS hl
      obtain rfl : 512 = i := by omega
      refine lv_iload_n hx hb dX3_init_27 rfl (lv_at hl 0 rfl) ?_
      refine lv_sipush (v := nI 512) hx hb dX3_init_28 (by decide) ?_
      refine lv_icmp_ge (tgt := 53) hx hb dX3_init_31 (by decide) (fun _ => ?_) (fun q => absurd (by decide) q)
      refine lv_aload_n hx hb dX3_init_53 rfl (lv_at hl 1 rfl) ?_
      have fz1 : dd Y2 5 0 = false := ne_f (fun z => by
        rcases (G2.2.2 5 0).mp z with y | y
        · rw [hfr 5 _ (by decide) (by decide)] at y; cases y
        · (unfold pfA at y; omega))
      have fz2 : dd Y2 6 0 = false := ne_f (fun z => by
        rcases (G2.2.2 6 0).mp z with y | y
        · rw [hfr 6 _ (by decide) (by decide)] at y; cases y
        · (unfold pfA at y; omega))
      refine nPs ⟨hx, hb, hml, hown, hts⟩ gX3_init_X2_init_n25 I2.2.2.2.2.1 (fun _ h => List.mem_cons_of_mem _ (List.mem_append_right _ h)) (List.mem_of_getElem? (i := 12) rfl) (List.mem_of_getElem? (i := 13) rfl) (List.mem_of_getElem? (i := 14) rfl) (List.mem_of_getElem? (i := 34) rfl) hw I2 hS 0 fz1 fz2 hl.1 (Nat.le_of_ble_eq_true rfl) ⟨(Nat.le_of_ble_eq_true rfl), (Nat.le_of_ble_eq_true rfl)⟩ (Nat.le_of_ble_eq_true rfl) (Nat.le_of_ble_eq_true rfl) dX3_init_54 dX3_init_57 dX3_init_58 (fun q5_0 Z H locs gz rq5_0 eq5_0 hw hS => ?_)
      have dz := (gz.2.2 0 0).mpr (Or.inl d2)
      have cz := ((gz.2.1 0 0 d2).2 (fun z => z)).trans c2
      have az := ad_keep a2 d2 gz
      have Iz := I2.gr gz
      have hS := va_SA gz.1.1 hS
      refine pfN (X := Z) (ci := 3) (fs := [.ref q1_0, .ref q3_0, .int 0, .null, .null, .null, .null, .int 0, .null, .null, .int 0, .null]) hx hb hown hts hw Iz.1 hS 0 0 dz cz rfl (fun _ h => List.mem_cons_of_mem _ (List.mem_append_left _ (List.mem_append_left _ (List.mem_append_right _ h)))) tyX3 tyX3_ok nmX3 3 (by decide) (List.mem_of_getElem? (i := 15) rfl) (Or.inr ⟨hnm, rfl⟩) (ty := .object "PairFinder$PairSet") (by decide +kernel) rfl rfl (Nat.le_of_ble_eq_true rfl) az dX3_init_61 (fun H locs hw hS => ?_)
      have gp : Gr Z (dP Z 0 0 (.inr (3, [.ref q1_0, .ref q3_0, .int 0, .ref q5_0, .null, .null, .null, .int 0, .null, .null, .int 0, .null]))) (one2 0 0) none2 := Gr.put
      have c3 : dc (dP Z 0 0 (.inr (3, [.ref q1_0, .ref q3_0, .int 0, .ref q5_0, .null, .null, .null, .int 0, .null, .null, .int 0, .null]))) 0 0 = .inr (3, [.ref q1_0, .ref q3_0, .int 0, .ref q5_0, .null, .null, .null, .int 0, .null, .null, .int 0, .null]) := dP_c
      have hw : dwM (dP Z 0 0 (.inr (3, [.ref q1_0, .ref q3_0, .int 0, .ref q5_0, .null, .null, .null, .int 0, .null, .null, .int 0, .null]))) H s := hw
      obtain ⟨Y3, hY3⟩ : ∃ z, z = dP Z 0 0 (.inr (3, [.ref q1_0, .ref q3_0, .int 0, .ref q5_0, .null, .null, .null, .int 0, .null, .null, .int 0, .null])) := ⟨_, rfl⟩
      rw [← hY3] at hw gp c3
      have g3 : Gr Y2 Y3 (one2 0 0) (fun a b => (a = 5 ∧ b = 0) ∨ (a = 6 ∧ b = 0)) := (gz.trans gp).mono (fun a b _ h => h.elim False.elim id) (fun a b => (by constructor <;> intro h <;> (try simp only [none2, one2, bxN, psN, or_false, false_or] at h ⊢) <;> omega))
      have G3 : Gr X Y3 (one2 0 0) (fun a b => (pfA 512 a b) ∨ ((a = 5 ∧ b = 0) ∨ (a = 6 ∧ b = 0))) := (G2.trans g3).mono (fun a b _ h => h.elim id id) (fun _ _ => Iff.rfl)
      have d3 := (g3.2.2 0 0).mpr (Or.inl d2)
      have a3 := ad_keep a2 d2 g3
      have I3 := I2.gr g3
      have hS := va_SA gp.1.1 hS
      have eq1_0 := ad_keep eq1_0 rq1_0.1 g3
      have eq3_0 := ad_keep eq3_0 rq3_0.1 g3
      have hf9 : ∀ b, b < 512 → f9 b = some (g_ad (dG Y3) 4 b) := fun b hb => (hf9 b hb).trans (congrArg some (g3.2.1 4 b (bo9 b hb).1).1.symm)
      have rq1_0 := rq1_0.keep g3 (fun z => absurd z.1 (by decide)) (fun z => absurd z.1 (by decide))
      have rq3_0 := rq3_0.keep g3 (fun z => absurd z.1 (by decide))
      have bo9 : ∀ k, k < 512 → boR Y3 k := fun k hk => (bo9 k hk).keep g3 (fun z => absurd z.1 (by decide)) (fun _ => (fun z => absurd z.1 (by decide))) (fun _ => (fun z => absurd z.1 (by decide)))
      have eq5_0 := ad_keep eq5_0 rq5_0.1 gp
      have rq5_0 := rq5_0.keep gp (fun z => absurd z.1 (by decide)) (fun z => absurd z.1 (by decide))
      refine lv_aload_n hx hb dX3_init_64 rfl (lv_at hl 1 rfl) ?_
      have fz1 : dd Y3 5 1 = false := ne_f (fun z => by
        rcases (G3.2.2 5 1).mp z with y | y
        · rw [hfr 5 _ (by decide) (by decide)] at y; cases y
        · (unfold pfA at y; omega))
      have fz2 : dd Y3 6 1 = false := ne_f (fun z => by
        rcases (G3.2.2 6 1).mp z with y | y
        · rw [hfr 6 _ (by decide) (by decide)] at y; cases y
        · (unfold pfA at y; omega))
      refine nPs ⟨hx, hb, hml, hown, hts⟩ gX3_init_X2_init_n25 I3.2.2.2.2.1 (fun _ h => List.mem_cons_of_mem _ (List.mem_append_right _ h)) (List.mem_of_getElem? (i := 12) rfl) (List.mem_of_getElem? (i := 13) rfl) (List.mem_of_getElem? (i := 14) rfl) (List.mem_of_getElem? (i := 34) rfl) hw I3 hS 1 fz1 fz2 hl.1 (Nat.le_of_ble_eq_true rfl) ⟨(Nat.le_of_ble_eq_true rfl), (Nat.le_of_ble_eq_true rfl)⟩ (Nat.le_of_ble_eq_true rfl) (Nat.le_of_ble_eq_true rfl) dX3_init_65 dX3_init_68 dX3_init_69 (fun q5_1 Z H locs gz rq5_1 eq5_1 hw hS => ?_)
      have dz := (gz.2.2 0 0).mpr (Or.inl d3)
      have cz := ((gz.2.1 0 0 d3).2 (fun z => z)).trans c3
      have az := ad_keep a3 d3 gz
      have Iz := I3.gr gz
      have hS := va_SA gz.1.1 hS
      refine pfN (X := Z) (ci := 3) (fs := [.ref q1_0, .ref q3_0, .int 0, .ref q5_0, .null, .null, .null, .int 0, .null, .null, .int 0, .null]) hx hb hown hts hw Iz.1 hS 0 0 dz cz rfl (fun _ h => List.mem_cons_of_mem _ (List.mem_append_left _ (List.mem_append_left _ (List.mem_append_right _ h)))) tyX3 tyX3_ok nmX3 4 (by decide) (List.mem_of_getElem? (i := 16) rfl) (Or.inr ⟨hnm, rfl⟩) (ty := .object "PairFinder$PairSet") (by decide +kernel) rfl rfl (Nat.le_of_ble_eq_true rfl) az dX3_init_72 (fun H locs hw hS => ?_)
      have gp : Gr Z (dP Z 0 0 (.inr (3, [.ref q1_0, .ref q3_0, .int 0, .ref q5_0, .ref q5_1, .null, .null, .int 0, .null, .null, .int 0, .null]))) (one2 0 0) none2 := Gr.put
      have c4 : dc (dP Z 0 0 (.inr (3, [.ref q1_0, .ref q3_0, .int 0, .ref q5_0, .ref q5_1, .null, .null, .int 0, .null, .null, .int 0, .null]))) 0 0 = .inr (3, [.ref q1_0, .ref q3_0, .int 0, .ref q5_0, .ref q5_1, .null, .null, .int 0, .null, .null, .int 0, .null]) := dP_c
      have hw : dwM (dP Z 0 0 (.inr (3, [.ref q1_0, .ref q3_0, .int 0, .ref q5_0, .ref q5_1, .null, .null, .int 0, .null, .null, .int 0, .null]))) H s := hw
      obtain ⟨Y4, hY4⟩ : ∃ z, z = dP Z 0 0 (.inr (3, [.ref q1_0, .ref q3_0, .int 0, .ref q5_0, .ref q5_1, .null, .null, .int 0, .null, .null, .int 0, .null])) := ⟨_, rfl⟩
      rw [← hY4] at hw gp c4
      have g4 : Gr Y3 Y4 (one2 0 0) (fun a b => (a = 5 ∧ b = 1) ∨ (a = 6 ∧ b = 1)) := (gz.trans gp).mono (fun a b _ h => h.elim False.elim id) (fun a b => (by constructor <;> intro h <;> (try simp only [none2, one2, bxN, psN, or_false, false_or] at h ⊢) <;> omega))
      have G4 : Gr X Y4 (one2 0 0) (fun a b => ((pfA 512 a b) ∨ ((a = 5 ∧ b = 0) ∨ (a = 6 ∧ b = 0))) ∨ ((a = 5 ∧ b = 1) ∨ (a = 6 ∧ b = 1))) := (G3.trans g4).mono (fun a b _ h => h.elim id id) (fun _ _ => Iff.rfl)
      have d4 := (g4.2.2 0 0).mpr (Or.inl d3)
      have a4 := ad_keep a3 d3 g4
      have I4 := I3.gr g4
      have hS := va_SA gp.1.1 hS
      have eq1_0 := ad_keep eq1_0 rq1_0.1 g4
      have eq3_0 := ad_keep eq3_0 rq3_0.1 g4
      have eq5_0 := ad_keep eq5_0 rq5_0.1 g4
      have hf9 : ∀ b, b < 512 → f9 b = some (g_ad (dG Y4) 4 b) := fun b hb => (hf9 b hb).trans (congrArg some (g4.2.1 4 b (bo9 b hb).1).1.symm)
      have rq1_0 := rq1_0.keep g4 (fun z => absurd z.1 (by decide)) (fun z => absurd z.1 (by decide))
      have rq3_0 := rq3_0.keep g4 (fun z => absurd z.1 (by decide))
      have bo9 : ∀ k, k < 512 → boR Y4 k := fun k hk => (bo9 k hk).keep g4 (fun z => absurd z.1 (by decide)) (fun _ => (fun z => absurd z.1 (by decide))) (fun _ => (fun z => absurd z.1 (by decide)))
      have rq5_0 := rq5_0.keep g4 (fun z => absurd z.1 (by decide)) (fun z => absurd z.1 (by decide))
      have eq5_1 := ad_keep eq5_1 rq5_1.1 gp
      have rq5_1 := rq5_1.keep gp (fun z => absurd z.1 (by decide)) (fun z => absurd z.1 (by decide))
      refine lv_aload_n hx hb dX3_init_75 rfl (lv_at hl 1 rfl) ?_
      have fz1 : dd Y4 5 2 = false := ne_f (fun z => by
        rcases (G4.2.2 5 2).mp z with y | y
        · rw [hfr 5 _ (by decide) (by decide)] at y; cases y
        · (unfold pfA at y; omega))
      have fz2 : dd Y4 6 2 = false := ne_f (fun z => by
        rcases (G4.2.2 6 2).mp z with y | y
        · rw [hfr 6 _ (by decide) (by decide)] at y; cases y
        · (unfold pfA at y; omega))
      refine nPs ⟨hx, hb, hml, hown, hts⟩ gX3_init_X2_init_n25 I4.2.2.2.2.1 (fun _ h => List.mem_cons_of_mem _ (List.mem_append_right _ h)) (List.mem_of_getElem? (i := 12) rfl) (List.mem_of_getElem? (i := 13) rfl) (List.mem_of_getElem? (i := 14) rfl) (List.mem_of_getElem? (i := 34) rfl) hw I4 hS 2 fz1 fz2 hl.1 (Nat.le_of_ble_eq_true rfl) ⟨(Nat.le_of_ble_eq_true rfl), (Nat.le_of_ble_eq_true rfl)⟩ (Nat.le_of_ble_eq_true rfl) (Nat.le_of_ble_eq_true rfl) dX3_init_76 dX3_init_79 dX3_init_80 (fun q5_2 Z H locs gz rq5_2 eq5_2 hw hS => ?_)
      have dz := (gz.2.2 0 0).mpr (Or.inl d4)
      have cz := ((gz.2.1 0 0 d4).2 (fun z => z)).trans c4
      have az := ad_keep a4 d4 gz
      have Iz := I4.gr gz
      have hS := va_SA gz.1.1 hS
      refine pfN (X := Z) (ci := 3) (fs := [.ref q1_0, .ref q3_0, .int 0, .ref q5_0, .ref q5_1, .null, .null, .int 0, .null, .null, .int 0, .null]) hx hb hown hts hw Iz.1 hS 0 0 dz cz rfl (fun _ h => List.mem_cons_of_mem _ (List.mem_append_left _ (List.mem_append_left _ (List.mem_append_right _ h)))) tyX3 tyX3_ok nmX3 5 (by decide) (List.mem_of_getElem? (i := 17) rfl) (Or.inr ⟨hnm, rfl⟩) (ty := .object "PairFinder$PairSet") (by decide +kernel) rfl rfl (Nat.le_of_ble_eq_true rfl) az dX3_init_83 (fun H locs hw hS => ?_)
      have gp : Gr Z (dP Z 0 0 (.inr (3, [.ref q1_0, .ref q3_0, .int 0, .ref q5_0, .ref q5_1, .ref q5_2, .null, .int 0, .null, .null, .int 0, .null]))) (one2 0 0) none2 := Gr.put
      have c5 : dc (dP Z 0 0 (.inr (3, [.ref q1_0, .ref q3_0, .int 0, .ref q5_0, .ref q5_1, .ref q5_2, .null, .int 0, .null, .null, .int 0, .null]))) 0 0 = .inr (3, [.ref q1_0, .ref q3_0, .int 0, .ref q5_0, .ref q5_1, .ref q5_2, .null, .int 0, .null, .null, .int 0, .null]) := dP_c
      have hw : dwM (dP Z 0 0 (.inr (3, [.ref q1_0, .ref q3_0, .int 0, .ref q5_0, .ref q5_1, .ref q5_2, .null, .int 0, .null, .null, .int 0, .null]))) H s := hw
      obtain ⟨Y5, hY5⟩ : ∃ z, z = dP Z 0 0 (.inr (3, [.ref q1_0, .ref q3_0, .int 0, .ref q5_0, .ref q5_1, .ref q5_2, .null, .int 0, .null, .null, .int 0, .null])) := ⟨_, rfl⟩
      rw [← hY5] at hw gp c5
      have g5 : Gr Y4 Y5 (one2 0 0) (fun a b => (a = 5 ∧ b = 2) ∨ (a = 6 ∧ b = 2)) := (gz.trans gp).mono (fun a b _ h => h.elim False.elim id) (fun a b => (by constructor <;> intro h <;> (try simp only [none2, one2, bxN, psN, or_false, false_or] at h ⊢) <;> omega))
      have G5 : Gr X Y5 (one2 0 0) (fun a b => (((pfA 512 a b) ∨ ((a = 5 ∧ b = 0) ∨ (a = 6 ∧ b = 0))) ∨ ((a = 5 ∧ b = 1) ∨ (a = 6 ∧ b = 1))) ∨ ((a = 5 ∧ b = 2) ∨ (a = 6 ∧ b = 2))) := (G4.trans g5).mono (fun a b _ h => h.elim id id) (fun _ _ => Iff.rfl)
      have d5 := (g5.2.2 0 0).mpr (Or.inl d4)
      have a5 := ad_keep a4 d4 g5
      have I5 := I4.gr g5
      have hS := va_SA gp.1.1 hS
      have eq1_0 := ad_keep eq1_0 rq1_0.1 g5
      have eq3_0 := ad_keep eq3_0 rq3_0.1 g5
      have eq5_0 := ad_keep eq5_0 rq5_0.1 g5
      have eq5_1 := ad_keep eq5_1 rq5_1.1 g5
      have hf9 : ∀ b, b < 512 → f9 b = some (g_ad (dG Y5) 4 b) := fun b hb => (hf9 b hb).trans (congrArg some (g5.2.1 4 b (bo9 b hb).1).1.symm)
      have rq1_0 := rq1_0.keep g5 (fun z => absurd z.1 (by decide)) (fun z => absurd z.1 (by decide))
      have rq3_0 := rq3_0.keep g5 (fun z => absurd z.1 (by decide))
      have bo9 : ∀ k, k < 512 → boR Y5 k := fun k hk => (bo9 k hk).keep g5 (fun z => absurd z.1 (by decide)) (fun _ => (fun z => absurd z.1 (by decide))) (fun _ => (fun z => absurd z.1 (by decide)))
      have rq5_0 := rq5_0.keep g5 (fun z => absurd z.1 (by decide)) (fun z => absurd z.1 (by decide))
      have rq5_1 := rq5_1.keep g5 (fun z => absurd z.1 (by decide)) (fun z => absurd z.1 (by decide))
      have eq5_2 := ad_keep eq5_2 rq5_2.1 gp
      have rq5_2 := rq5_2.keep gp (fun z => absurd z.1 (by decide)) (fun z => absurd z.1 (by decide))
      refine lv_aload_n hx hb dX3_init_86 rfl (lv_at hl 1 rfl) ?_
      have fz1 : dd Y5 5 3 = false := ne_f (fun z => by
        rcases (G5.2.2 5 3).mp z with y | y
        · rw [hfr 5 _ (by decide) (by decide)] at y; cases y
        · (unfold pfA at y; omega))
      have fz2 : dd Y5 6 3 = false := ne_f (fun z => by
        rcases (G5.2.2 6 3).mp z with y | y
        · rw [hfr 6 _ (by decide) (by decide)] at y; cases y
        · (unfold pfA at y; omega))
      refine nPs ⟨hx, hb, hml, hown, hts⟩ gX3_init_X2_init_n25 I5.2.2.2.2.1 (fun _ h => List.mem_cons_of_mem _ (List.mem_append_right _ h)) (List.mem_of_getElem? (i := 12) rfl) (List.mem_of_getElem? (i := 13) rfl) (List.mem_of_getElem? (i := 14) rfl) (List.mem_of_getElem? (i := 34) rfl) hw I5 hS 3 fz1 fz2 hl.1 (Nat.le_of_ble_eq_true rfl) ⟨(Nat.le_of_ble_eq_true rfl), (Nat.le_of_ble_eq_true rfl)⟩ (Nat.le_of_ble_eq_true rfl) (Nat.le_of_ble_eq_true rfl) dX3_init_87 dX3_init_90 dX3_init_91 (fun q5_3 Z H locs gz rq5_3 eq5_3 hw hS => ?_)
      have dz := (gz.2.2 0 0).mpr (Or.inl d5)
      have cz := ((gz.2.1 0 0 d5).2 (fun z => z)).trans c5
      have az := ad_keep a5 d5 gz
      have Iz := I5.gr gz
      have hS := va_SA gz.1.1 hS
      refine pfN (X := Z) (ci := 3) (fs := [.ref q1_0, .ref q3_0, .int 0, .ref q5_0, .ref q5_1, .ref q5_2, .null, .int 0, .null, .null, .int 0, .null]) hx hb hown hts hw Iz.1 hS 0 0 dz cz rfl (fun _ h => List.mem_cons_of_mem _ (List.mem_append_left _ (List.mem_append_left _ (List.mem_append_right _ h)))) tyX3 tyX3_ok nmX3 6 (by decide) (List.mem_of_getElem? (i := 18) rfl) (Or.inr ⟨hnm, rfl⟩) (ty := .object "PairFinder$PairSet") (by decide +kernel) rfl rfl (Nat.le_of_ble_eq_true rfl) az dX3_init_94 (fun H locs hw hS => ?_)
      have gp : Gr Z (dP Z 0 0 (.inr (3, [.ref q1_0, .ref q3_0, .int 0, .ref q5_0, .ref q5_1, .ref q5_2, .ref q5_3, .int 0, .null, .null, .int 0, .null]))) (one2 0 0) none2 := Gr.put
      have c6 : dc (dP Z 0 0 (.inr (3, [.ref q1_0, .ref q3_0, .int 0, .ref q5_0, .ref q5_1, .ref q5_2, .ref q5_3, .int 0, .null, .null, .int 0, .null]))) 0 0 = .inr (3, [.ref q1_0, .ref q3_0, .int 0, .ref q5_0, .ref q5_1, .ref q5_2, .ref q5_3, .int 0, .null, .null, .int 0, .null]) := dP_c
      have hw : dwM (dP Z 0 0 (.inr (3, [.ref q1_0, .ref q3_0, .int 0, .ref q5_0, .ref q5_1, .ref q5_2, .ref q5_3, .int 0, .null, .null, .int 0, .null]))) H s := hw
      obtain ⟨Y6, hY6⟩ : ∃ z, z = dP Z 0 0 (.inr (3, [.ref q1_0, .ref q3_0, .int 0, .ref q5_0, .ref q5_1, .ref q5_2, .ref q5_3, .int 0, .null, .null, .int 0, .null])) := ⟨_, rfl⟩
      rw [← hY6] at hw gp c6
      have g6 : Gr Y5 Y6 (one2 0 0) (fun a b => (a = 5 ∧ b = 3) ∨ (a = 6 ∧ b = 3)) := (gz.trans gp).mono (fun a b _ h => h.elim False.elim id) (fun a b => (by constructor <;> intro h <;> (try simp only [none2, one2, bxN, psN, or_false, false_or] at h ⊢) <;> omega))
      have G6 : Gr X Y6 (one2 0 0) (fun a b => ((((pfA 512 a b) ∨ ((a = 5 ∧ b = 0) ∨ (a = 6 ∧ b = 0))) ∨ ((a = 5 ∧ b = 1) ∨ (a = 6 ∧ b = 1))) ∨ ((a = 5 ∧ b = 2) ∨ (a = 6 ∧ b = 2))) ∨ ((a = 5 ∧ b = 3) ∨ (a = 6 ∧ b = 3))) := (G5.trans g6).mono (fun a b _ h => h.elim id id) (fun _ _ => Iff.rfl)
      have d6 := (g6.2.2 0 0).mpr (Or.inl d5)
      have a6 := ad_keep a5 d5 g6
      have I6 := I5.gr g6
      have hS := va_SA gp.1.1 hS
      have eq1_0 := ad_keep eq1_0 rq1_0.1 g6
      have eq3_0 := ad_keep eq3_0 rq3_0.1 g6
      have eq5_0 := ad_keep eq5_0 rq5_0.1 g6
      have eq5_1 := ad_keep eq5_1 rq5_1.1 g6
      have eq5_2 := ad_keep eq5_2 rq5_2.1 g6
      have hf9 : ∀ b, b < 512 → f9 b = some (g_ad (dG Y6) 4 b) := fun b hb => (hf9 b hb).trans (congrArg some (g6.2.1 4 b (bo9 b hb).1).1.symm)
      have rq1_0 := rq1_0.keep g6 (fun z => absurd z.1 (by decide)) (fun z => absurd z.1 (by decide))
      have rq3_0 := rq3_0.keep g6 (fun z => absurd z.1 (by decide))
      have bo9 : ∀ k, k < 512 → boR Y6 k := fun k hk => (bo9 k hk).keep g6 (fun z => absurd z.1 (by decide)) (fun _ => (fun z => absurd z.1 (by decide))) (fun _ => (fun z => absurd z.1 (by decide)))
      have rq5_0 := rq5_0.keep g6 (fun z => absurd z.1 (by decide)) (fun z => absurd z.1 (by decide))
      have rq5_1 := rq5_1.keep g6 (fun z => absurd z.1 (by decide)) (fun z => absurd z.1 (by decide))
      have rq5_2 := rq5_2.keep g6 (fun z => absurd z.1 (by decide)) (fun z => absurd z.1 (by decide))
      have eq5_3 := ad_keep eq5_3 rq5_3.1 gp
      have rq5_3 := rq5_3.keep gp (fun z => absurd z.1 (by decide)) (fun z => absurd z.1 (by decide))
      refine lv_aload_n hx hb dX3_init_97 rfl (lv_at hl 1 rfl) ?_
      refine lv_sipush (v := nI 512) hx hb dX3_init_98 (by decide) ?_
      have fz : dd Y6 7 0 = false := ne_f (fun z => by
        rcases (G6.2.2 7 0).mp z with y | y
        · rw [hfr 7 _ (by decide) (by decide)] at y; cases y
        · (unfold pfA at y; omega))
      refine nAr (ty := .int) (a0 := (512, .inl (fun _ => 0))) (N' := 512) hx hb hts (List.mem_of_getElem? (i := 19) rfl) rfl hw I6.1 hS 7 0 1 rfl ra_i fz (fun _ => rfl) (by decide) (by decide) (by decide) (Nat.le_of_ble_eq_true rfl) (Nat.le_of_ble_eq_true rfl) dX3_init_101 (fun q7_0 H hw hS => ?_)
      have gz : Gr Y6 (dN Y6 q7_0 7 0 (.inl (g_cy (dG Y6) 1, 512, .inl (fun _ => 0)))) none2 (one2 7 0) := Gr.new fz
      have eq7_0 : q7_0 = g_ad (dG (dN Y6 q7_0 7 0 (.inl (g_cy (dG Y6) 1, 512, .inl (fun _ => 0))))) 7 0 := dN_a.symm
      have rq7_0 : arR X (dN Y6 q7_0 7 0 (.inl (g_cy (dG Y6) 1, 512, .inl (fun _ => 0)))) 7 0 1 (512, .inl (fun _ => 0)) := ⟨dN_d, by rw [dN_c, G6.1.2.1]⟩
      obtain ⟨Z, hZ⟩ : ∃ z, z = dN Y6 q7_0 7 0 (.inl (g_cy (dG Y6) 1, 512, .inl (fun _ => 0))) := ⟨_, rfl⟩
      rw [← hZ] at hw gz eq7_0 rq7_0
      have dz := (gz.2.2 0 0).mpr (Or.inl d6)
      have cz := ((gz.2.1 0 0 d6).2 (fun z => z)).trans c6
      have az := ad_keep a6 d6 gz
      have Iz := I6.gr gz
      have hS := va_SA gz.1.1 hS
      refine pfN (X := Z) (ci := 3) (fs := [.ref q1_0, .ref q3_0, .int 0, .ref q5_0, .ref q5_1, .ref q5_2, .ref q5_3, .int 0, .null, .null, .int 0, .null]) hx hb hown hts hw Iz.1 hS 0 0 dz cz rfl (fun _ h => List.mem_cons_of_mem _ (List.mem_append_left _ (List.mem_append_left _ (List.mem_append_right _ h)))) tyX3 tyX3_ok nmX3 8 (by decide) (List.mem_of_getElem? (i := 20) rfl) (Or.inr ⟨hnm, rfl⟩) (ty := .array .int) (by decide +kernel) rfl rfl (Nat.le_of_ble_eq_true rfl) az dX3_init_103 (fun H locs hw hS => ?_)
      have gp : Gr Z (dP Z 0 0 (.inr (3, [.ref q1_0, .ref q3_0, .int 0, .ref q5_0, .ref q5_1, .ref q5_2, .ref q5_3, .int 0, .ref q7_0, .null, .int 0, .null]))) (one2 0 0) none2 := Gr.put
      have c7 : dc (dP Z 0 0 (.inr (3, [.ref q1_0, .ref q3_0, .int 0, .ref q5_0, .ref q5_1, .ref q5_2, .ref q5_3, .int 0, .ref q7_0, .null, .int 0, .null]))) 0 0 = .inr (3, [.ref q1_0, .ref q3_0, .int 0, .ref q5_0, .ref q5_1, .ref q5_2, .ref q5_3, .int 0, .ref q7_0, .null, .int 0, .null]) := dP_c
      have hw : dwM (dP Z 0 0 (.inr (3, [.ref q1_0, .ref q3_0, .int 0, .ref q5_0, .ref q5_1, .ref q5_2, .ref q5_3, .int 0, .ref q7_0, .null, .int 0, .null]))) H s := hw
      obtain ⟨Y7, hY7⟩ : ∃ z, z = dP Z 0 0 (.inr (3, [.ref q1_0, .ref q3_0, .int 0, .ref q5_0, .ref q5_1, .ref q5_2, .ref q5_3, .int 0, .ref q7_0, .null, .int 0, .null])) := ⟨_, rfl⟩
      rw [← hY7] at hw gp c7
      have g7 : Gr Y6 Y7 (one2 0 0) (fun a b => (a = 7 ∧ b = 0)) := (gz.trans gp).mono (fun a b _ h => h.elim False.elim id) (fun a b => (by constructor <;> intro h <;> (try simp only [none2, one2, bxN, psN, or_false, false_or] at h ⊢) <;> omega))
      have G7 : Gr X Y7 (one2 0 0) (fun a b => (((((pfA 512 a b) ∨ ((a = 5 ∧ b = 0) ∨ (a = 6 ∧ b = 0))) ∨ ((a = 5 ∧ b = 1) ∨ (a = 6 ∧ b = 1))) ∨ ((a = 5 ∧ b = 2) ∨ (a = 6 ∧ b = 2))) ∨ ((a = 5 ∧ b = 3) ∨ (a = 6 ∧ b = 3))) ∨ (a = 7 ∧ b = 0)) := (G6.trans g7).mono (fun a b _ h => h.elim id id) (fun _ _ => Iff.rfl)
      have d7 := (g7.2.2 0 0).mpr (Or.inl d6)
      have a7 := ad_keep a6 d6 g7
      have I7 := I6.gr g7
      have hS := va_SA gp.1.1 hS
      have eq1_0 := ad_keep eq1_0 rq1_0.1 g7
      have eq3_0 := ad_keep eq3_0 rq3_0.1 g7
      have eq5_0 := ad_keep eq5_0 rq5_0.1 g7
      have eq5_1 := ad_keep eq5_1 rq5_1.1 g7
      have eq5_2 := ad_keep eq5_2 rq5_2.1 g7
      have eq5_3 := ad_keep eq5_3 rq5_3.1 g7
      have hf9 : ∀ b, b < 512 → f9 b = some (g_ad (dG Y7) 4 b) := fun b hb => (hf9 b hb).trans (congrArg some (g7.2.1 4 b (bo9 b hb).1).1.symm)
      have rq1_0 := rq1_0.keep g7 (fun z => absurd z.1 (by decide)) (fun z => absurd z.1 (by decide))
      have rq3_0 := rq3_0.keep g7 (fun z => absurd z.1 (by decide))
      have bo9 : ∀ k, k < 512 → boR Y7 k := fun k hk => (bo9 k hk).keep g7 (fun z => absurd z.1 (by decide)) (fun _ => (fun z => absurd z.1 (by decide))) (fun _ => (fun z => absurd z.1 (by decide)))
      have rq5_0 := rq5_0.keep g7 (fun z => absurd z.1 (by decide)) (fun z => absurd z.1 (by decide))
      have rq5_1 := rq5_1.keep g7 (fun z => absurd z.1 (by decide)) (fun z => absurd z.1 (by decide))
      have rq5_2 := rq5_2.keep g7 (fun z => absurd z.1 (by decide)) (fun z => absurd z.1 (by decide))
      have rq5_3 := rq5_3.keep g7 (fun z => absurd z.1 (by decide)) (fun z => absurd z.1 (by decide))
      have eq7_0 := ad_keep eq7_0 rq7_0.1 gp
      have rq7_0 := rq7_0.keep gp (fun z => absurd z.1 (by decide))
      refine lv_aload_n hx hb dX3_init_106 rfl (lv_at hl 1 rfl) ?_
      refine lv_sipush (v := nI 512) hx hb dX3_init_107 (by decide) ?_
      have fz : dd Y7 8 0 = false := ne_f (fun z => by
        rcases (G7.2.2 8 0).mp z with y | y
        · rw [hfr 8 _ (by decide) (by decide)] at y; cases y
        · (unfold pfA at y; omega))
      refine nAr (ty := .float) (a0 := (512, .inr (.inr (.inl (fun _ => 0))))) (N' := 512) hx hb hts (List.mem_of_getElem? (i := 21) rfl) rfl hw I7.1 hS 8 0 0 rfl ra_f fz (fun _ => rfl) (by decide) (by decide) (by decide) (Nat.le_of_ble_eq_true rfl) (Nat.le_of_ble_eq_true rfl) dX3_init_110 (fun q8_0 H hw hS => ?_)
      have gz : Gr Y7 (dN Y7 q8_0 8 0 (.inl (g_cy (dG Y7) 0, 512, .inr (.inr (.inl (fun _ => 0)))))) none2 (one2 8 0) := Gr.new fz
      have eq8_0 : q8_0 = g_ad (dG (dN Y7 q8_0 8 0 (.inl (g_cy (dG Y7) 0, 512, .inr (.inr (.inl (fun _ => 0))))))) 8 0 := dN_a.symm
      have rq8_0 : arR X (dN Y7 q8_0 8 0 (.inl (g_cy (dG Y7) 0, 512, .inr (.inr (.inl (fun _ => 0)))))) 8 0 0 (512, .inr (.inr (.inl (fun _ => 0)))) := ⟨dN_d, by rw [dN_c, G7.1.2.1]⟩
      obtain ⟨Z, hZ⟩ : ∃ z, z = dN Y7 q8_0 8 0 (.inl (g_cy (dG Y7) 0, 512, .inr (.inr (.inl (fun _ => 0))))) := ⟨_, rfl⟩
      rw [← hZ] at hw gz eq8_0 rq8_0
      have dz := (gz.2.2 0 0).mpr (Or.inl d7)
      have cz := ((gz.2.1 0 0 d7).2 (fun z => z)).trans c7
      have az := ad_keep a7 d7 gz
      have Iz := I7.gr gz
      have hS := va_SA gz.1.1 hS
      refine pfN (X := Z) (ci := 3) (fs := [.ref q1_0, .ref q3_0, .int 0, .ref q5_0, .ref q5_1, .ref q5_2, .ref q5_3, .int 0, .ref q7_0, .null, .int 0, .null]) hx hb hown hts hw Iz.1 hS 0 0 dz cz rfl (fun _ h => List.mem_cons_of_mem _ (List.mem_append_left _ (List.mem_append_left _ (List.mem_append_right _ h)))) tyX3 tyX3_ok nmX3 9 (by decide) (List.mem_of_getElem? (i := 22) rfl) (Or.inr ⟨hnm, rfl⟩) (ty := .array .float) (by decide +kernel) rfl rfl (Nat.le_of_ble_eq_true rfl) az dX3_init_112 (fun H locs hw hS => ?_)
      have gp : Gr Z (dP Z 0 0 (.inr (3, [.ref q1_0, .ref q3_0, .int 0, .ref q5_0, .ref q5_1, .ref q5_2, .ref q5_3, .int 0, .ref q7_0, .ref q8_0, .int 0, .null]))) (one2 0 0) none2 := Gr.put
      have c8 : dc (dP Z 0 0 (.inr (3, [.ref q1_0, .ref q3_0, .int 0, .ref q5_0, .ref q5_1, .ref q5_2, .ref q5_3, .int 0, .ref q7_0, .ref q8_0, .int 0, .null]))) 0 0 = .inr (3, [.ref q1_0, .ref q3_0, .int 0, .ref q5_0, .ref q5_1, .ref q5_2, .ref q5_3, .int 0, .ref q7_0, .ref q8_0, .int 0, .null]) := dP_c
      have hw : dwM (dP Z 0 0 (.inr (3, [.ref q1_0, .ref q3_0, .int 0, .ref q5_0, .ref q5_1, .ref q5_2, .ref q5_3, .int 0, .ref q7_0, .ref q8_0, .int 0, .null]))) H s := hw
      obtain ⟨Y8, hY8⟩ : ∃ z, z = dP Z 0 0 (.inr (3, [.ref q1_0, .ref q3_0, .int 0, .ref q5_0, .ref q5_1, .ref q5_2, .ref q5_3, .int 0, .ref q7_0, .ref q8_0, .int 0, .null])) := ⟨_, rfl⟩
      rw [← hY8] at hw gp c8
      have g8 : Gr Y7 Y8 (one2 0 0) (fun a b => (a = 8 ∧ b = 0)) := (gz.trans gp).mono (fun a b _ h => h.elim False.elim id) (fun a b => (by constructor <;> intro h <;> (try simp only [none2, one2, bxN, psN, or_false, false_or] at h ⊢) <;> omega))
      have G8 : Gr X Y8 (one2 0 0) (fun a b => ((((((pfA 512 a b) ∨ ((a = 5 ∧ b = 0) ∨ (a = 6 ∧ b = 0))) ∨ ((a = 5 ∧ b = 1) ∨ (a = 6 ∧ b = 1))) ∨ ((a = 5 ∧ b = 2) ∨ (a = 6 ∧ b = 2))) ∨ ((a = 5 ∧ b = 3) ∨ (a = 6 ∧ b = 3))) ∨ (a = 7 ∧ b = 0)) ∨ (a = 8 ∧ b = 0)) := (G7.trans g8).mono (fun a b _ h => h.elim id id) (fun _ _ => Iff.rfl)
      have d8 := (g8.2.2 0 0).mpr (Or.inl d7)
      have a8 := ad_keep a7 d7 g8
      have I8 := I7.gr g8
      have hS := va_SA gp.1.1 hS
      have eq1_0 := ad_keep eq1_0 rq1_0.1 g8
      have eq3_0 := ad_keep eq3_0 rq3_0.1 g8
      have eq5_0 := ad_keep eq5_0 rq5_0.1 g8
      have eq5_1 := ad_keep eq5_1 rq5_1.1 g8
      have eq5_2 := ad_keep eq5_2 rq5_2.1 g8
      have eq5_3 := ad_keep eq5_3 rq5_3.1 g8
      have eq7_0 := ad_keep eq7_0 rq7_0.1 g8
      have hf9 : ∀ b, b < 512 → f9 b = some (g_ad (dG Y8) 4 b) := fun b hb => (hf9 b hb).trans (congrArg some (g8.2.1 4 b (bo9 b hb).1).1.symm)
      have rq1_0 := rq1_0.keep g8 (fun z => absurd z.1 (by decide)) (fun z => absurd z.1 (by decide))
      have rq3_0 := rq3_0.keep g8 (fun z => absurd z.1 (by decide))
      have bo9 : ∀ k, k < 512 → boR Y8 k := fun k hk => (bo9 k hk).keep g8 (fun z => absurd z.1 (by decide)) (fun _ => (fun z => absurd z.1 (by decide))) (fun _ => (fun z => absurd z.1 (by decide)))
      have rq5_0 := rq5_0.keep g8 (fun z => absurd z.1 (by decide)) (fun z => absurd z.1 (by decide))
      have rq5_1 := rq5_1.keep g8 (fun z => absurd z.1 (by decide)) (fun z => absurd z.1 (by decide))
      have rq5_2 := rq5_2.keep g8 (fun z => absurd z.1 (by decide)) (fun z => absurd z.1 (by decide))
      have rq5_3 := rq5_3.keep g8 (fun z => absurd z.1 (by decide)) (fun z => absurd z.1 (by decide))
      have rq7_0 := rq7_0.keep g8 (fun z => absurd z.1 (by decide))
      have eq8_0 := ad_keep eq8_0 rq8_0.1 gp
      have rq8_0 := rq8_0.keep gp (fun z => absurd z.1 (by decide))
      refine lv_aload_n hx hb dX3_init_115 rfl (lv_at hl 1 rfl) ?_
      have fz1 : dd Y8 1 1 = false := ne_f (fun z => by
        rcases (G8.2.2 1 1).mp z with y | y
        · rw [hfr 1 _ (by decide) (by decide)] at y; cases y
        · (unfold pfA at y; omega))
      have fz2 : dd Y8 2 1 = false := ne_f (fun z => by
        rcases (G8.2.2 2 1).mp z with y | y
        · rw [hfr 2 _ (by decide) (by decide)] at y; cases y
        · (unfold pfA at y; omega))
      refine nBx ⟨hx, hb, hml, hown, hts⟩ gX3_init_X1_init_n9 I8.2.2.1 (fun _ h => List.mem_cons_of_mem _ (List.mem_append_left _ (List.mem_append_left _ (List.mem_append_left _ (List.mem_append_right _ h))))) (List.mem_of_getElem? (i := 4) rfl) (List.mem_of_getElem? (i := 5) rfl) (List.mem_of_getElem? (i := 6) rfl) (List.mem_of_getElem? (i := 24) rfl) hw I8 hS 1 fz1 fz2 hl.1 (Nat.le_of_ble_eq_true rfl) ⟨(Nat.le_of_ble_eq_true rfl), (Nat.le_of_ble_eq_true rfl)⟩ (Nat.le_of_ble_eq_true rfl) (Nat.le_of_ble_eq_true rfl) dX3_init_116 dX3_init_119 dX3_init_120 (fun q1_1 Z H locs gz rq1_1 eq1_1 hw hS => ?_)
      have dz := (gz.2.2 0 0).mpr (Or.inl d8)
      have cz := ((gz.2.1 0 0 d8).2 (fun z => z)).trans c8
      have az := ad_keep a8 d8 gz
      have Iz := I8.gr gz
      have hS := va_SA gz.1.1 hS
      refine pfN (X := Z) (ci := 3) (fs := [.ref q1_0, .ref q3_0, .int 0, .ref q5_0, .ref q5_1, .ref q5_2, .ref q5_3, .int 0, .ref q7_0, .ref q8_0, .int 0, .null]) hx hb hown hts hw Iz.1 hS 0 0 dz cz rfl (fun _ h => List.mem_cons_of_mem _ (List.mem_append_left _ (List.mem_append_left _ (List.mem_append_right _ h)))) tyX3 tyX3_ok nmX3 11 (by decide) (List.mem_of_getElem? (i := 23) rfl) (Or.inr ⟨hnm, rfl⟩) (ty := .object "PairFinder$Box") (by decide +kernel) rfl rfl (Nat.le_of_ble_eq_true rfl) az dX3_init_123 (fun H locs hw hS => ?_)
      have gp : Gr Z (dP Z 0 0 (.inr (3, [.ref q1_0, .ref q3_0, .int 0, .ref q5_0, .ref q5_1, .ref q5_2, .ref q5_3, .int 0, .ref q7_0, .ref q8_0, .int 0, .ref q1_1]))) (one2 0 0) none2 := Gr.put
      have c9 : dc (dP Z 0 0 (.inr (3, [.ref q1_0, .ref q3_0, .int 0, .ref q5_0, .ref q5_1, .ref q5_2, .ref q5_3, .int 0, .ref q7_0, .ref q8_0, .int 0, .ref q1_1]))) 0 0 = .inr (3, [.ref q1_0, .ref q3_0, .int 0, .ref q5_0, .ref q5_1, .ref q5_2, .ref q5_3, .int 0, .ref q7_0, .ref q8_0, .int 0, .ref q1_1]) := dP_c
      have hw : dwM (dP Z 0 0 (.inr (3, [.ref q1_0, .ref q3_0, .int 0, .ref q5_0, .ref q5_1, .ref q5_2, .ref q5_3, .int 0, .ref q7_0, .ref q8_0, .int 0, .ref q1_1]))) H s := hw
      obtain ⟨Y9, hY9⟩ : ∃ z, z = dP Z 0 0 (.inr (3, [.ref q1_0, .ref q3_0, .int 0, .ref q5_0, .ref q5_1, .ref q5_2, .ref q5_3, .int 0, .ref q7_0, .ref q8_0, .int 0, .ref q1_1])) := ⟨_, rfl⟩
      rw [← hY9] at hw gp c9
      have g9 : Gr Y8 Y9 (one2 0 0) (fun a b => (a = 1 ∧ b = 1) ∨ (a = 2 ∧ b = 1)) := (gz.trans gp).mono (fun a b _ h => h.elim False.elim id) (fun a b => (by constructor <;> intro h <;> (try simp only [none2, one2, bxN, psN, or_false, false_or] at h ⊢) <;> omega))
      have G9 : Gr X Y9 (one2 0 0) (fun a b => (((((((pfA 512 a b) ∨ ((a = 5 ∧ b = 0) ∨ (a = 6 ∧ b = 0))) ∨ ((a = 5 ∧ b = 1) ∨ (a = 6 ∧ b = 1))) ∨ ((a = 5 ∧ b = 2) ∨ (a = 6 ∧ b = 2))) ∨ ((a = 5 ∧ b = 3) ∨ (a = 6 ∧ b = 3))) ∨ (a = 7 ∧ b = 0)) ∨ (a = 8 ∧ b = 0)) ∨ ((a = 1 ∧ b = 1) ∨ (a = 2 ∧ b = 1))) := (G8.trans g9).mono (fun a b _ h => h.elim id id) (fun _ _ => Iff.rfl)
      have d9 := (g9.2.2 0 0).mpr (Or.inl d8)
      have a9 := ad_keep a8 d8 g9
      have I9 := I8.gr g9
      have hS := va_SA gp.1.1 hS
      have eq1_0 := ad_keep eq1_0 rq1_0.1 g9
      have eq3_0 := ad_keep eq3_0 rq3_0.1 g9
      have eq5_0 := ad_keep eq5_0 rq5_0.1 g9
      have eq5_1 := ad_keep eq5_1 rq5_1.1 g9
      have eq5_2 := ad_keep eq5_2 rq5_2.1 g9
      have eq5_3 := ad_keep eq5_3 rq5_3.1 g9
      have eq7_0 := ad_keep eq7_0 rq7_0.1 g9
      have eq8_0 := ad_keep eq8_0 rq8_0.1 g9
      have hf9 : ∀ b, b < 512 → f9 b = some (g_ad (dG Y9) 4 b) := fun b hb => (hf9 b hb).trans (congrArg some (g9.2.1 4 b (bo9 b hb).1).1.symm)
      have rq1_0 := rq1_0.keep g9 (fun z => absurd z.1 (by decide)) (fun z => absurd z.1 (by decide))
      have rq3_0 := rq3_0.keep g9 (fun z => absurd z.1 (by decide))
      have bo9 : ∀ k, k < 512 → boR Y9 k := fun k hk => (bo9 k hk).keep g9 (fun z => absurd z.1 (by decide)) (fun _ => (fun z => absurd z.1 (by decide))) (fun _ => (fun z => absurd z.1 (by decide)))
      have rq5_0 := rq5_0.keep g9 (fun z => absurd z.1 (by decide)) (fun z => absurd z.1 (by decide))
      have rq5_1 := rq5_1.keep g9 (fun z => absurd z.1 (by decide)) (fun z => absurd z.1 (by decide))
      have rq5_2 := rq5_2.keep g9 (fun z => absurd z.1 (by decide)) (fun z => absurd z.1 (by decide))
      have rq5_3 := rq5_3.keep g9 (fun z => absurd z.1 (by decide)) (fun z => absurd z.1 (by decide))
      have rq7_0 := rq7_0.keep g9 (fun z => absurd z.1 (by decide))
      have rq8_0 := rq8_0.keep g9 (fun z => absurd z.1 (by decide))
      have eq1_1 := ad_keep eq1_1 rq1_1.1 gp
      have rq1_1 := rq1_1.keep gp (fun z => absurd z.1 (by decide)) (fun z => absurd z.1 (by decide))
      refine rvN hx hb hlk hr (Y := Y9) ⟨G9, ?_, rq1_0, rq1_1, rq5_0, rq5_1, rq5_2, rq5_3, rq7_0, rq8_0, bo9, f9, rq3_0, hf9⟩ hw (va_SA G9.1.1.symm hS) (Nat.le_of_ble_eq_true rfl) (Nat.le_of_ble_eq_true rfl) dX3_init_126
      rw [c9, ← eq1_0, ← eq3_0, ← eq5_0, ← eq5_1, ← eq5_2, ← eq5_3, ← eq7_0, ← eq8_0, ← eq1_1]
  exact LOOP 512 0 Y2 (fun _ => none) _ _ ls (by omega) (G2.mono (fun _ _ _ h => h) (fun a b => by unfold pfA; simp only [false_or]; omega)) d2 c2 a2 I2 rq1_0 eq1_0 rq3_0 eq3_0 (fun b hb => absurd hb (by omega)) (fun b hb => absurd hb (by omega)) hw hS hl
