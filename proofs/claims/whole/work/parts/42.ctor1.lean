/-! Constructors of Box, PairSet, Body -/
def Gr (X Y : Dw) (E N : Nat → Nat → Prop) : Prop := (g_A (dG Y) = g_A (dG X) ∧ g_cy (dG Y) = g_cy (dG X) ∧ g_dC (dG Y) = g_dC (dG X) ∧ g_dI (dG Y) = g_dI (dG X)) ∧ (∀ a b, dd X a b = true → g_ad (dG Y) a b = g_ad (dG X) a b ∧ (¬ E a b → dc Y a b = dc X a b)) ∧ ∀ a b, dd Y a b = true ↔ (dd X a b = true ∨ N a b)
def none2 (_ _ : Nat) : Prop := False
def one2 (i j a b : Nat) : Prop := a = i ∧ b = j
theorem Gr.refl (X : Dw) : Gr X X none2 none2 := ⟨⟨rfl, rfl, rfl, rfl⟩, fun _ _ _ => ⟨rfl, fun _ => rfl⟩, fun _ _ => ⟨Or.inl, fun h => h.elim id False.elim⟩⟩
theorem Gr.trans {X Y Z : Dw} {E N E' N' : Nat → Nat → Prop} (h : Gr X Y E N) (k : Gr Y Z E' N') : Gr X Z (fun a b => E a b ∨ E' a b) (fun a b => N a b ∨ N' a b) := by
  obtain ⟨⟨a1, a2, a3, a4⟩, h2, h3⟩ := h
  obtain ⟨⟨b1, b2, b3, b4⟩, k2, k3⟩ := k
  refine ⟨⟨b1.trans a1, b2.trans a2, b3.trans a3, b4.trans a4⟩, fun a b hd => ?_, fun a b => ?_⟩
  · obtain ⟨e1, e2⟩ := h2 a b hd
    obtain ⟨f1, f2⟩ := k2 a b ((h3 a b).mpr (Or.inl hd))
    exact ⟨f1.trans e1, fun z => (f2 (fun y => z (Or.inr y))).trans (e2 (fun y => z (Or.inl y)))⟩
  · rw [k3, h3]
    constructor
    · rintro ((q | q) | q)
      · exact Or.inl q
      · exact Or.inr (Or.inl q)
      · exact Or.inr (Or.inr q)
    · rintro (q | q | q)
      · exact Or.inl (Or.inl q)
      · exact Or.inl (Or.inr q)
      · exact Or.inr q
theorem Gr.mono {X Y : Dw} {E N E' N' : Nat → Nat → Prop} (h : Gr X Y E N) (hE : ∀ a b, dd X a b = true → E a b → E' a b) (hN : ∀ a b, N a b ↔ N' a b) : Gr X Y E' N' :=
  ⟨h.1, fun a b hd => ⟨(h.2.1 a b hd).1, fun z => (h.2.1 a b hd).2 (fun y => z (hE a b hd y))⟩, fun a b => by rw [h.2.2, hN]⟩
theorem Gr.new {X : Dw} {q i j : Nat} {e : va_E} (hd : dd X i j = false) : Gr X (dN X q i j e) none2 (one2 i j) := by
  have key : ∀ a b, dd X a b = true → ¬ (a = i ∧ b = j) := fun a b h z => by rw [z.1, z.2, hd] at h; cases h
  refine ⟨⟨rfl, rfl, rfl, rfl⟩, fun a b h => ⟨up2_ne _ _ (key a b h), fun _ => up2_ne _ _ (key a b h)⟩, fun a b => ?_⟩
  by_cases z : a = i ∧ b = j
  · have e1 : dd (dN X q i j e) a b = true := by rw [z.1, z.2]; exact up2_self _ _ _ _
    exact ⟨fun _ => Or.inr z, fun _ => e1⟩
  · have e1 : dd (dN X q i j e) a b = dd X a b := up2_ne _ _ z
    rw [e1]
    exact ⟨Or.inl, fun h => h.elim id (fun y => absurd y z)⟩
theorem Gr.put {X : Dw} {i j : Nat} {e : va_E} : Gr X (dP X i j e) (one2 i j) none2 :=
  ⟨⟨rfl, rfl, rfl, rfl⟩, fun a b _ => ⟨rfl, fun z => up2_ne _ _ z⟩, fun _ _ => ⟨Or.inl, fun h => h.elim id False.elim⟩⟩
theorem wdI.gr {X Y : Dw} {E N : Nat → Nat → Prop} {s : State} (h : Gr X Y E N) (hI : wdI (dG X) s) : wdI (dG Y) s := by
  obtain ⟨⟨a1, a2, a3, a4⟩, -, -⟩ := h
  unfold wdI wdT g_ty at hI ⊢
  rw [a2, a3, a4]
  exact hI
theorem dN_c {X : Dw} {q i j : Nat} {e : va_E} : dc (dN X q i j e) i j = e := up2_self _ _ _ _
theorem dN_a {X : Dw} {q i j : Nat} {e : va_E} : g_ad (dG (dN X q i j e)) i j = q := up2_self _ _ _ _
theorem dN_d {X : Dw} {q i j : Nat} {e : va_E} : dd (dN X q i j e) i j = true := up2_self _ _ _ _
theorem dP_c {X : Dw} {i j : Nat} {e : va_E} : dc (dP X i j e) i j = e := up2_self _ _ _ _
theorem dP_ne {X : Dw} {i j a b : Nat} {e : va_E} (h : ¬ (a = i ∧ b = j)) : dc (dP X i j e) a b = dc X a b := up2_ne _ _ h
theorem dP_a {X : Dw} {i j : Nat} {e : va_E} : g_ad (dG (dP X i j e)) = g_ad (dG X) := rfl
def zF : va_E := .inl (0, 0, .inl (fun _ => 0))
def bxE (X : Dw) : va_E := .inl (g_cy (dG X) 0, 6, .inr (.inr (.inl (fun _ => 0))))
def psE (X : Dw) : va_E := .inl (g_cy (dG X) 2, 4096, .inr (.inl (fun _ => 0)))
def bxP (X : Dw) (j : Nat) (Y : Dw) : Prop := Gr X Y (one2 1 j) (one2 2 j) ∧ dc Y 1 j = .inr (1, [.ref (g_ad (dG Y) 2 j)]) ∧ dc Y 2 j = bxE X
def psP (X : Dw) (j : Nat) (Y : Dw) : Prop := Gr X Y (one2 5 j) (one2 6 j) ∧ dc Y 5 j = .inr (2, [.ref (g_ad (dG Y) 6 j), .int 0]) ∧ dc Y 6 j = psE X
theorem ne_f {b : Bool} (h : ¬ b = true) : b = false := by cases b <;> simp_all

set_option maxRecDepth 100000 in
set_option maxHeartbeats 1000000 in
theorem c_boxI (l : Launch) (X : Dw) (j : Nat) (hd1 : dd X 1 j = true) (hc1 : dc X 1 j = .inr (1, [.null])) (hd2 : dd X 2 j = false) : PN l yX1_init wsX1_init ({ frames := 1, cells := 1, slots := 6, locals := 12 } : Room) [.ref (g_ad (dG X) 1 j)] X (bxP X j) := by
  refine entN (cc := cX1_init) (maxL := 1) (ret := none) (by decide) rfl (Nat.le_of_ble_eq_true rfl) ?_
  intro p e s m below meth c ls C hnm hw hI hS hl
  obtain ⟨hx, hb, hr, hml, hown, hts, hlk⟩ := C
  have hl : lv_has ls 1 [(0, .ref (g_ad (dG X) 1 j))] := hl
  refine lv_aload_n hx hb dX1_init_0 rfl (lv_at hl 0 rfl) ?_
  refine obN hx hb hml hown hts (List.mem_of_getElem? (i := 1) rfl) (List.mem_of_getElem? (i := 2) rfl) (List.mem_of_getElem? (i := 3) rfl) hl.1 dX1_init_1 (Nat.le_of_ble_eq_true rfl) (Nat.le_of_ble_eq_true rfl) ?_
  refine lv_aload_n hx hb dX1_init_4 rfl (lv_at hl 0 rfl) ?_
  refine lv_bipush (v := nI 6) hx hb dX1_init_5 (by decide) ?_
  refine nAr (ty := .float) (a0 := (6, .inr (.inr (.inl (fun _ => 0))))) (N' := 6) hx hb hts (List.mem_of_getElem? (i := 4) rfl) rfl hw hI.1 hS 2 j 0 rfl ra_f hd2 (fun _ => rfl) (by decide) (by decide) (by decide) (Nat.le_of_ble_eq_true rfl) (Nat.le_of_ble_eq_true rfl) dX1_init_7 (fun q H hw hS => ?_)
  have g1 : Gr X (dN X q 2 j (.inl (g_cy (dG X) 0, 6, .inr (.inr (.inl (fun _ => 0)))))) none2 (one2 2 j) := Gr.new hd2
  obtain ⟨a9, b9⟩ := g1.2.1 1 j hd1
  have c9 := (b9 (fun z => z)).trans hc1
  refine pfN (X := dN X q 2 j (.inl (g_cy (dG X) 0, 6, .inr (.inr (.inl (fun _ => 0)))))) (ci := 1) (fs := [.null]) hx hb hown hts hw hI.1 hS 1 j ((g1.2.2 1 j).mpr (Or.inl hd1)) c9 rfl (fun _ h => List.mem_cons_of_mem _ (List.mem_append_right _ h)) tyX1 tyX1_ok nmX1 0 (by decide) (List.mem_of_getElem? (i := 5) rfl) (Or.inr ⟨hnm, rfl⟩) (ty := .array .float) (by decide +kernel) rfl rfl (Nat.le_of_ble_eq_true rfl) a9.symm dX1_init_9 (fun H locs hw hS => ?_)
  refine rvN hx hb hlk hr (Y := dP (dN X q 2 j (.inl (g_cy (dG X) 0, 6, .inr (.inr (.inl (fun _ => 0)))))) 1 j (.inr (1, [.ref q]))) ⟨(g1.trans Gr.put).mono (fun a b _ h => h.elim False.elim id) (fun a b => ⟨fun h => h.elim id False.elim, Or.inl⟩), ?_, ?_⟩ hw hS (Nat.le_of_ble_eq_true rfl) (Nat.le_of_ble_eq_true rfl) dX1_init_12
  · rw [dP_c, dP_a, dN_a]
  · exact (dP_ne (by rintro ⟨z, -⟩; exact absurd z (by decide))).trans dN_c
set_option maxRecDepth 100000 in
set_option maxHeartbeats 1000000 in
theorem c_setI (l : Launch) (X : Dw) (j : Nat) (hd1 : dd X 5 j = true) (hc1 : dc X 5 j = .inr (2, [.null, .int 0])) (hd2 : dd X 6 j = false) : PN l yX2_init wsX2_init ({ frames := 1, cells := 1, slots := 4096, locals := 12 } : Room) [.ref (g_ad (dG X) 5 j)] X (psP X j) := by
  refine entN (cc := cX2_init) (maxL := 1) (ret := none) (by decide) rfl (Nat.le_of_ble_eq_true rfl) ?_
  intro p e s m below meth c ls C hnm hw hI hS hl
  obtain ⟨hx, hb, hr, hml, hown, hts, hlk⟩ := C
  have hl : lv_has ls 1 [(0, .ref (g_ad (dG X) 5 j))] := hl
  refine lv_aload_n hx hb dX2_init_0 rfl (lv_at hl 0 rfl) ?_
  refine obN hx hb hml hown hts (List.mem_of_getElem? (i := 1) rfl) (List.mem_of_getElem? (i := 2) rfl) (List.mem_of_getElem? (i := 3) rfl) hl.1 dX2_init_1 (Nat.le_of_ble_eq_true rfl) (Nat.le_of_ble_eq_true rfl) ?_
  refine lv_aload_n hx hb dX2_init_4 rfl (lv_at hl 0 rfl) ?_
  refine lv_sipush (v := nI 4096) hx hb dX2_init_5 (by decide) ?_
  refine nAr (ty := .long) (a0 := (4096, .inr (.inl (fun _ => 0)))) (N' := 4096) hx hb hts (List.mem_of_getElem? (i := 4) rfl) rfl hw hI.1 hS 6 j 2 rfl ra_l hd2 (fun _ => rfl) (by decide) (by decide) (by decide) (Nat.le_of_ble_eq_true rfl) (Nat.le_of_ble_eq_true rfl) dX2_init_8 (fun q H hw hS => ?_)
  have g1 : Gr X (dN X q 6 j (.inl (g_cy (dG X) 2, 4096, .inr (.inl (fun _ => 0))))) none2 (one2 6 j) := Gr.new hd2
  obtain ⟨a9, b9⟩ := g1.2.1 5 j hd1
  have c9 := (b9 (fun z => z)).trans hc1
  refine pfN (X := dN X q 6 j (.inl (g_cy (dG X) 2, 4096, .inr (.inl (fun _ => 0))))) (ci := 2) (fs := [.null, .int 0]) hx hb hown hts hw hI.1 hS 5 j ((g1.2.2 5 j).mpr (Or.inl hd1)) c9 rfl (fun _ h => List.mem_cons_of_mem _ (List.mem_append_right _ h)) tyX2 tyX2_ok nmX2 0 (by decide) (List.mem_of_getElem? (i := 5) rfl) (Or.inr ⟨hnm, rfl⟩) (ty := .array .long) (by decide +kernel) rfl rfl (Nat.le_of_ble_eq_true rfl) a9.symm dX2_init_10 (fun H locs hw hS => ?_)
  refine rvN hx hb hlk hr (Y := dP (dN X q 6 j (.inl (g_cy (dG X) 2, 4096, .inr (.inl (fun _ => 0))))) 5 j (.inr (2, [.ref q, .int 0]))) ⟨(g1.trans Gr.put).mono (fun a b _ h => h.elim False.elim id) (fun a b => ⟨fun h => h.elim id False.elim, Or.inl⟩), ?_, ?_⟩ hw hS (Nat.le_of_ble_eq_true rfl) (Nat.le_of_ble_eq_true rfl) dX2_init_13
  · rw [dP_c, dP_a, dN_a]
  · exact (dP_ne (by rintro ⟨z, -⟩; exact absurd z (by decide))).trans dN_c
