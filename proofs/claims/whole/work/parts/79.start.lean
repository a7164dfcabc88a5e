/-! The law's start: the world before anything is made, then all is made -/
theorem arrK {s : State} {args : Array Value} {ty : FieldType} (h : (Cond.arrayClass ty).before args s = true) : ∃ cA : ClassId, ArrOfT s cA ty ∧ s.vm.findClass ("[" ++ ty.toString) = some cA := by
  obtain ⟨c, k, comp, h1, h2, h3⟩ := Cond.arrayClass_spec h
  exact ⟨c, fun N z => ⟨(fun k h => by cases h), k, h2, comp, h3⟩, h1⟩
theorem arrO {s : State} {args : Array Value} {C : String} (h : (Cond.arrayOver (.object C)).before args s = true) : ∃ cA : ClassId, ArrOfT s cA (.object C) ∧ va_RA s cA (.object C) := by
  obtain ⟨comp, c, k, h1, h2, h3, h4, h5⟩ := Cond.arrayOver_spec h
  exact ⟨c, fun N z => ⟨(fun k h => by cases h), k, h3, comp, h4⟩, k, comp, h3, h4, h1, h5⟩
theorem strK {s : State} {args : Array Value} {k : Nat} {tx : String} (h1 : (Cond.stringRef RX3 k tx).before args s = true) (h2 : (Cond.exactly (Term.string RX3 k) "java/lang/String").before args s = true) : ∃ sa, vk_R RX3 k tx sa s := by
  obtain ⟨a, c, cell, kk, ht, -⟩ := Cond.exactly_spec h2
  exact ⟨a, vk_R.of h1 ht⟩
theorem str_t : ∀ q ∈ strW, Cond.stringRef RX3 q.1 q.2 ∈ lw_tbl := by decide +kernel
theorem str_n : ∀ q ∈ strW, Cond.exactly (Term.string RX3 q.1) "java/lang/String" ∈ flatC (Jvm.Cond.and given_1 narrow_1) := by decide +kernel
theorem start_w {s : State} {b : Nat} (hts : ∀ w ∈ lw_tbl, w.before #[Value.ref b] s = true) (hgv : (Jvm.Cond.and given_1 narrow_1).before #[Value.ref b] s = true) : ∃ X : Dw, dwM X s.heap s ∧ wdI (dG X) s ∧ (∀ a b, dd X a b = false) ∧ (g_A (dG X) = fun q : Nat => s.heap.size ≤ q) ∧ ncW s := by
  have hs := flat_of_before _ hgv
  obtain ⟨c0, i0, k0⟩ := u_known (C := RX0) (T := TX0) (N := 6) (n := 6) hts inX0 (hts (.instantiable RX0 6) (by decide +kernel))
  obtain ⟨c1, i1, k1⟩ := u_known (C := RX1) (T := TX1) (N := 1) (n := 1) hts inX1 (hts (.instantiable RX1 1) (by decide +kernel))
  obtain ⟨c2, i2, k2⟩ := u_known (C := RX2) (T := TX2) (N := 2) (n := 2) hts inX2 (hts (.instantiable RX2 2) (by decide +kernel))
  obtain ⟨c3, i3, k3⟩ := u_known (C := RX3) (T := TX3) (N := 12) (n := 12) hts inX3 (hts (.instantiable RX3 12) (by decide +kernel))
  obtain ⟨c4, i4, k4⟩ := u_known (C := RX4) (T := TX4) (N := 17) (n := 17) hts inX4 (hts (.instantiable RX4 17) (by decide +kernel))
  obtain ⟨y0, f0, g0⟩ := arrK (hts (.arrayClass .float) (by decide +kernel))
  obtain ⟨y1, f1, g1⟩ := arrK (hts (.arrayClass .int) (by decide +kernel))
  obtain ⟨y2, f2, g2⟩ := arrK (hts (.arrayClass .long) (by decide +kernel))
  obtain ⟨y3, f3, g3⟩ := arrK (hts (.arrayClass .boolean) (by decide +kernel))
  obtain ⟨y4, f4, g4⟩ := arrK (hts (.arrayClass .double) (by decide +kernel))
  have hO := hts (.arrayOver (.object "PairFinder$Body")) (by decide +kernel)
  obtain ⟨y5, f5, g5⟩ := arrO hO
  obtain ⟨dC, hdC⟩ : ∃ d : Nat → ClassId, d 0 = c0 ∧ d 1 = c1 ∧ d 2 = c2 ∧ d 3 = c3 ∧ d 4 = c4 := ⟨fun k => if k = 0 then c0 else if k = 1 then c1 else if k = 2 then c2 else if k = 3 then c3 else c4, rfl, rfl, rfl, rfl, rfl⟩
  obtain ⟨dI, hdI⟩ : ∃ d : Nat → Nat → Nat, d 0 = i0 ∧ d 1 = i1 ∧ d 2 = i2 ∧ d 3 = i3 ∧ d 4 = i4 := ⟨fun k => if k = 0 then i0 else if k = 1 then i1 else if k = 2 then i2 else if k = 3 then i3 else i4, rfl, rfl, rfl, rfl, rfl⟩
  obtain ⟨cy, hcy⟩ : ∃ d : Nat → ClassId, d 0 = y0 ∧ d 1 = y1 ∧ d 2 = y2 ∧ d 3 = y3 ∧ d 4 = y4 ∧ d 5 = y5 := ⟨fun k => if k = 0 then y0 else if k = 1 then y1 else if k = 2 then y2 else if k = 3 then y3 else if k = 4 then y4 else y5, rfl, rfl, rfl, rfl, rfl, rfl⟩
  have hK : va_K (dC, dI) vwCl [(cy 0, .float), (cy 1, .int), (cy 2, .long), (cy 3, .boolean), (cy 4, .double), (cy 5, .object "PairFinder$Body")] s := by
    refine ⟨fun k q hq => ?_, fun k q hq => ?_⟩
    · match k, hq with
      | 0, hq => cases hq; show u_Kn s RX0 TX0 6 (dC 0) (dI 0); rw [hdC.1, hdI.1]; exact k0
      | 1, hq => cases hq; show u_Kn s RX1 TX1 1 (dC 1) (dI 1); rw [hdC.2.1, hdI.2.1]; exact k1
      | 2, hq => cases hq; show u_Kn s RX2 TX2 2 (dC 2) (dI 2); rw [hdC.2.2.1, hdI.2.2.1]; exact k2
      | 3, hq => cases hq; show u_Kn s RX3 TX3 12 (dC 3) (dI 3); rw [hdC.2.2.2.1, hdI.2.2.2.1]; exact k3
      | 4, hq => cases hq; show u_Kn s RX4 TX4 17 (dC 4) (dI 4); rw [hdC.2.2.2.2, hdI.2.2.2.2]; exact k4
      | k + 5, hq => simp at hq
    · match k, hq with
      | 0, hq => cases hq; show ArrOfT s (cy 0) _ ∧ va_RA s (cy 0) _; rw [hcy.1]; exact ⟨f0, g0⟩
      | 1, hq => cases hq; show ArrOfT s (cy 1) _ ∧ va_RA s (cy 1) _; rw [hcy.2.1]; exact ⟨f1, g1⟩
      | 2, hq => cases hq; show ArrOfT s (cy 2) _ ∧ va_RA s (cy 2) _; rw [hcy.2.2.1]; exact ⟨f2, g2⟩
      | 3, hq => cases hq; show ArrOfT s (cy 3) _ ∧ va_RA s (cy 3) _; rw [hcy.2.2.2.1]; exact ⟨f3, g3⟩
      | 4, hq => cases hq; show ArrOfT s (cy 4) _ ∧ va_RA s (cy 4) _; rw [hcy.2.2.2.2.1]; exact ⟨f4, g4⟩
      | 5, hq => cases hq; show ArrOfT s (cy 5) _ ∧ va_RA s (cy 5) _; rw [hcy.2.2.2.2.2]; exact ⟨f5, g5⟩
      | k + 6, hq => simp at hq
  have hA : ∀ a : Nat, a < s.heap.size → ¬ (fun q : Nat => s.heap.size ≤ q) a := fun a h => Nat.not_le.mpr h
  have z1 : vx_Zq Bundle.tN "UNASSIGNED_STACK" Bundle.steD (fun q : Nat => s.heap.size ≤ q) s s.heap := vx_Zqof (hts (.laysStatic Bundle.tN "UNASSIGNED_STACK" Bundle.steD) (by decide +kernel)) (hts (.initialized Bundle.tN) (by decide +kernel)) (hs (.isRef (.static Bundle.tN "UNASSIGNED_STACK" Bundle.steD)) (by decide +kernel)) hA
  have z2 : vx_Zq Bundle.tN "SUPPRESSED_SENTINEL" Bundle.listD (fun q : Nat => s.heap.size ≤ q) s s.heap := vx_Zqof (hts (.laysStatic Bundle.tN "SUPPRESSED_SENTINEL" Bundle.listD) (by decide +kernel)) (hts (.initialized Bundle.tN) (by decide +kernel)) (hs (.isRef (.static Bundle.tN "SUPPRESSED_SENTINEL" Bundle.listD)) (by decide +kernel)) hA
  have n1 : va_Nw (.methodLinkNest RX1 26 yX3_isWithin "PairFinder") s := va_Nw.of rfl (hts _ (by decide +kernel))
  have n2 : va_Nw (.methodLinkNest RX0 9 yX1_init "PairFinder") s := va_Nw.of rfl (hts _ (by decide +kernel))
  have n3 : va_Nw (.methodLinkNest RX3 9 yX1_init "PairFinder") s := va_Nw.of rfl (hts _ (by decide +kernel))
  have n4 : va_Nw (.methodLinkNest RX3 22 yX0_init "PairFinder") s := va_Nw.of rfl (hts _ (by decide +kernel))
  have n5 : va_Nw (.methodLinkNest RX3 25 yX2_init "PairFinder") s := va_Nw.of rfl (hts _ (by decide +kernel))
  have q1 : ∀ E ∈ [xA, xS, xI], va_Nw (.castable E E) s := by
    intro E hE
    simp only [List.mem_cons, List.not_mem_nil, or_false] at hE
    rcases hE with rfl | rfl | rfl
    · exact va_Nw.of rfl (hts _ (by decide +kernel))
    · exact va_Nw.of rfl (hts _ (by decide +kernel))
    · exact va_Nw.of rfl (hts _ (by decide +kernel))
  have q2 : ∀ E ∈ ["java/lang/RuntimeException", "java/lang/Exception", Bundle.tN], va_Nw (.declares (Bundle.initS E)) s := by
    intro E hE
    simp only [List.mem_cons, List.not_mem_nil, or_false] at hE
    rcases hE with rfl | rfl | rfl
    · exact va_Nw.of rfl (hts _ (by decide +kernel))
    · exact va_Nw.of rfl (hts _ (by decide +kernel))
    · exact va_Nw.of rfl (hts _ (by decide +kernel))
  refine ⟨((fun _ _ => 0, fun _ => (0, 0), [], fun q : Nat => s.heap.size ≤ q, cy, dC, dI), fun _ _ => false, fun _ _ => .inr (0, [])), ⟨⟨fun i j h => absurd (show false = true from h) (by decide), fun a h => absurd h List.not_mem_nil⟩, fun _ h => h, fun k q h => absurd (show ([] : va_W)[k]? = some q from h) (by simp), ⟨fun i j p q h => absurd (show ([] : va_W)[i]? = some p from h) (by simp), fun k q h => absurd (show ([] : va_W)[k]? = some q from h) (by simp)⟩, z1, z2⟩, ⟨⟨hK, fun q hq => strK (hts _ (str_t q hq)) (hs _ (str_n q hq)), n1, q1, q2⟩, n2, n3, n4, n5, va_AO.of hO⟩, fun _ _ => rfl, rfl, va_Nc.of (hs _ (by decide +kernel)), va_Nc.of (hs _ (by decide +kernel))⟩
section SII
variable {p : Program} {l : Launch} {e : Env} {R : Room} {s : State} {m : MethodId} {args : Array Value} {below : List Frame} {meth : Method} {c : Code} {H H0 : Heap} {locs : List Loc} {cells slots : Nat} {Q : State → Prop}
variable {cc : ByteArray} {pc nL : Nat} {ls : Array Slot} {rest : List Value} {Ts : List Cond} {X : Dw} {own : String} {index : Nat}
variable {y : MethodName} {bytes : ByteArray} {maxL n : Nat} {ws : List Cond} {rm : Room} {b : Nat}
theorem cII {post : Dw → Prop} (S0 : CallFix p m c cc nL s args Ts own) (hM : PN l y ws rm [.ref b] X post) (cw : CallB R s args own index y bytes maxL none ws rm rm.cells rm.slots 0 ∧ y.name = "<init>" ∧ (Cond.instanceMethod y).before args s = true) (hw : dwM X H s) (hT : wdI (dG X) s) (hS : va_S (g_A (dG X)) H0 H locs) (hsz : ls.size = nL) (hW : (rest.map fun v => v.category).sum ≤ 8) (hdg : decode cc pc = .ok (.invokespecial index, 3)) (hf : cells + rm.cells ≤ R.cells ∧ slots + rm.slots ≤ R.slots)
    (kk : ∀ (Y : Dw) (H1 : Heap) (locs1 : List Loc), post Y → dwM Y H1 s → va_S (g_A (dG X)) H0 H1 locs1 → W p l e R s m args below meth c H1 locs1 (cells + rm.cells) (slots + rm.slots) Q (F0 m (pc + 3) ls rest)) : W p l e R s m args below meth c H locs cells slots Q (F0 m pc ls (.ref b :: rest)) := by
  refine va_callv (va_runI (As := []) (rest := rest) S0 hM cw ⟨dw_blind, fun U hU hW => ⟨rfl, dw_in hw hT hU hW⟩⟩ rfl rfl hsz rfl (lv_room hW) hdg hf) hS (fun q _ h => h) (fun q h => h) (fun Y t H1 locs1 ht hvm hp hB hz1 hk1 hS1 => ?_)
  exact kk Y H1 locs1 hp (by have h9 : dwM Y t.heap t := hB; rw [ht] at h9; exact dwM.moved hvm.symm h9) hS1
end SII
set_option maxRecDepth 100000 in
set_option maxHeartbeats 2000000 in
theorem whole_start {p : Program} {e : Env} {s : State} {m : MethodId} {below : List Frame} {meth : Method} {c : Code} (l : Launch) (hl0 : l.stackTraces = false) {b L : Nat} {xs : Nat → Int32} (hL : L ≤ 448) (C0 : lw_At p s m meth c b L xs) : W p l e room_1 s m #[Value.ref b] below meth c s.heap [] 0 0 (lw_Z below #[Value.ref b] s) (entryFrame m ([Value.ref b] : List Value).toArray 8) := by
  obtain ⟨hx, hb, hr, hml, hown, htt, hX, hbl, hlk, hgv⟩ := C0
  obtain ⟨X, hw, hI, hd, hA, hN⟩ := start_w htt hgv
  have hts : ∀ w ∈ wsL_law, w.before #[Value.ref b] s = true := fun w h => htt w (wsL_law_in w h)
  have hS : va_S (g_A (dG X)) s.heap s.heap [] := va_S.rf
  have hl := lv_entry ([.ref b]) (n := 8) (Nat.le_of_ble_eq_true rfl)
  rw [lg_entry_eq]
  generalize (lg_sl ([.ref b]) ++ List.replicate (8 - (lg_sl ([.ref b])).length) Slot.unset).toArray = ls at hl ⊢
  have hl : lv_has ls 8 [(0, .ref b)] := hl
  -- the class's object
  refine nOb (i := 0) (j := 0) (ci := 3) (fs := [.null, .null, .int 0, .null, .null, .null, .null, .int 0, .null, .null, .int 0, .null]) hx hb hown hts inlX3 tyX3 tyX3_ok (List.mem_of_getElem? (i := 0) (by decide +kernel)) (List.mem_of_getElem? (i := 1) (by decide +kernel)) (List.mem_of_getElem? (i := 2) (by decide +kernel)) hw hI.1 hS (hd 0 0) rfl (by decide) (Nat.le_of_ble_eq_true rfl) (Nat.le_of_ble_eq_true rfl) dL_law_0 (fun q0 H hw hS => ?_)
  have hw : dwM (dN X q0 0 0 pf0) H s := hw
  have r0 := Gr.new (q := q0) (e := pf0) (hd 0 0)
  have hI := wdI.gr r0 hI
  refine lv_dup hx hb dL_law_3 rfl ?_
  have k1 : ∀ a b, dd (dN X q0 0 0 pf0) a b = true ↔ one2 0 0 a b := fun a b => by
    rw [r0.2.2 a b, hd a b]
    exact ⟨fun h => h.elim (fun z => by cases z) id, Or.inr⟩
  have M1 := c_pfI l (dN X q0 0 0 pf0) dN_d dN_c (fun a b h1 h2 => ne_f (fun z => by have := (k1 a b).mp z; simp only [one2] at this; omega))
  rw [dN_a] at M1
  refine cII ⟨hx, hb, hml, hown, hts⟩ M1 (cwI 0 hts gL_law_X3_init rfl rfl rfl (hts (.initialized RX3) (List.mem_of_getElem? (i := 2) (by decide +kernel))) (hts (.methodLink RL 77 yX3_init) (List.mem_of_getElem? (i := 9) (by decide +kernel))) (hts (.instanceMethod yX3_init) (List.mem_of_getElem? (i := 10) (by decide +kernel))) rfl (by decide +kernel) ⟨(Nat.le_of_ble_eq_true rfl), (Nat.le_of_ble_eq_true rfl)⟩) hw hI hS hl.1 (Nat.le_of_ble_eq_true rfl) dL_law_4 ⟨(Nat.le_of_ble_eq_true rfl), (Nat.le_of_ble_eq_true rfl)⟩ (fun Y1 H locs h1 hw hS => ?_)
  have hI := wdI.gr h1.1 hI
  have hA1 : g_A (dG Y1) = g_A (dG X) := h1.1.1.1
  have hS : va_S (g_A (dG Y1)) s.heap H locs := by rw [hA1]; exact hS
  have k2 : ∀ a b, dd Y1 a b = true ↔ (one2 0 0 a b ∨ pfN9 a b) := fun a b => by rw [h1.1.2.2 a b, k1]
  have f9 : dd Y1 9 0 = false := ne_f (fun z => by have := (k2 9 0).mp z; simp only [one2, pfN9, pfA] at this; omega)
  refine lv_astore_n (lv' := [(1, .ref q0), (0, .ref b)]) hx hb dL_law_7 rfl hl (by decide) rfl (fun ls hl => ?_)
  -- the model's object
  refine nOb (i := 9) (j := 0) (ci := 4) (fs := [.int 0, .null, .null, .null, .null, .null, .null, .null, .null, .null, .null, .null, .int 0, .int 0, .null, .null, .null]) hx hb hown hts inlX4 tyX4 tyX4_ok (List.mem_of_getElem? (i := 3) (by decide +kernel)) (List.mem_of_getElem? (i := 4) (by decide +kernel)) (List.mem_of_getElem? (i := 5) (by decide +kernel)) hw hI.1 hS f9 rfl (by decide) (Nat.le_of_ble_eq_true rfl) (Nat.le_of_ble_eq_true rfl) dL_law_8 (fun q9 H hw hS => ?_)
  have hw : dwM (dN Y1 q9 9 0 mo0) H s := hw
  have r9 := Gr.new (q := q9) (e := mo0) f9
  have hI := wdI.gr r9 hI
  refine lv_dup hx hb dL_law_11 rfl ?_
  have k3 : ∀ a b, dd (dN Y1 q9 9 0 mo0) a b = true ↔ ((one2 0 0 a b ∨ pfN9 a b) ∨ one2 9 0 a b) := fun a b => by rw [r9.2.2 a b, k2]
  have M2 := c_modI l (dN Y1 q9 9 0 mo0) dN_d dN_c (fun a b ha hb => ne_f (fun z => by have := (k3 a b).mp z; simp only [one2, pfN9, pfA] at this; omega))
  rw [dN_a] at M2
  refine cII ⟨hx, hb, hml, hown, hts⟩ M2 (cwI 0 hts gL_law_X4_init rfl rfl rfl (hts (.initialized RX4) (List.mem_of_getElem? (i := 5) (by decide +kernel))) (hts (.methodLink RL 80 yX4_init) (List.mem_of_getElem? (i := 49) (by decide +kernel))) (hts (.instanceMethod yX4_init) (List.mem_of_getElem? (i := 50) (by decide +kernel))) rfl (by decide +kernel) ⟨(Nat.le_of_ble_eq_true rfl), (Nat.le_of_ble_eq_true rfl)⟩) hw hI hS hl.1 (Nat.le_of_ble_eq_true rfl) dL_law_12 ⟨(Nat.le_of_ble_eq_true rfl), (Nat.le_of_ble_eq_true rfl)⟩ (fun Y2 H locs h2 hw hS => ?_)
  have hI := wdI.gr h2.1 hI
  have hA2 : g_A (dG Y2) = g_A (dG X) := h2.1.1.1.trans hA1
  have hS : va_S (g_A (dG Y2)) s.heap H locs := by
    have z : g_A (dG (dN Y1 q9 9 0 mo0)) = g_A (dG Y2) := h2.1.1.1.symm
    rw [← z]; exact hS
  refine lv_astore_n (lv' := [(2, .ref q9), (1, .ref q0), (0, .ref b)]) hx hb dL_law_15 rfl hl (by decide) rfl (fun ls hl => ?_)
  -- the two rows of one
  refine lv_iconst (v := nI 1) hx hb dL_law_16 (by decide) ?_
  obtain ⟨-, -, -, f13, -⟩ := born_dd (q13 := 0) (q14 := 0) hd h1 h2
  refine nAr (ty := .long) (a0 := (1, .inr (.inl (fun _ => 0)))) (N' := 1) hx hb hts (List.mem_of_getElem? (i := 6) (by decide +kernel)) rfl hw hI.1 hS 13 0 2 rfl ra_l f13 (fun _ => rfl) (by decide) (by decide) (by decide) (Nat.le_of_ble_eq_true rfl) (Nat.le_of_ble_eq_true rfl) dL_law_17 (fun q13 H hw hS => ?_)
  have hw : dwM (dN Y2 q13 13 0 (ou0 Y2)) H s := hw
  have r13 := Gr.new (q := q13) (e := ou0 Y2) f13
  have hI := wdI.gr r13 hI
  refine lv_astore_n (lv' := [(3, .ref q13), (2, .ref q9), (1, .ref q0), (0, .ref b)]) hx hb dL_law_19 rfl hl (by decide) rfl (fun ls hl => ?_)
  refine lv_iconst (v := nI 1) hx hb dL_law_20 (by decide) ?_
  obtain ⟨-, -, -, -, f14⟩ := born_dd (q13 := q13) (q14 := 0) hd h1 h2
  refine nAr (ty := .double) (a0 := (1, .inr (.inr (.inr (.inl (fun _ => 0)))))) (N' := 1) hx hb hts (List.mem_of_getElem? (i := 7) (by decide +kernel)) rfl hw hI.1 hS 14 0 4 rfl ra_d f14 (fun _ => rfl) (by decide) (by decide) (by decide) (Nat.le_of_ble_eq_true rfl) (Nat.le_of_ble_eq_true rfl) dL_law_21 (fun q14 H hw hS => ?_)
  have hw : dwM (dN (dN Y2 q13 13 0 (ou0 Y2)) q14 14 0 (od0 Y2)) H s := hw
  have r14 := Gr.new (q := q14) (e := od0 Y2) f14
  have hI := wdI.gr r14 hI
  refine lv_astore (lv' := [(4, .ref q14), (3, .ref q13), (2, .ref q9), (1, .ref q0), (0, .ref b)]) hx hb dL_law_23 hl (by decide) rfl (fun ls hl => ?_)
  refine lv_iconst (v := nI 0) hx hb dL_law_25 (by decide) ?_
  refine lv_istore (lv' := [(5, .int (nI 0)), (4, .ref q14), (3, .ref q13), (2, .ref q9), (1, .ref q0), (0, .ref b)]) hx hb dL_law_26 hl (by decide) rfl (fun ls hl => ?_)
  have hB := all_born (q13 := q13) (q14 := q14) hd h1 h2
  have hW := born_wd hw hB
  -- where things are
  have d0 : dd (dN X q0 0 0 pf0) 0 0 = true := dN_d
  have d1 : dd Y1 0 0 = true := (h1.1.2.2 0 0).mpr (Or.inl d0)
  have d2 : dd (dN Y1 q9 9 0 mo0) 0 0 = true := (r9.2.2 0 0).mpr (Or.inl d1)
  have d3 : dd Y2 0 0 = true := (h2.1.2.2 0 0).mpr (Or.inl d2)
  have d4 : dd (dN Y2 q13 13 0 (ou0 Y2)) 0 0 = true := (r13.2.2 0 0).mpr (Or.inl d3)
  have e2 : dd (dN Y1 q9 9 0 mo0) 9 0 = true := dN_d
  have e3 : dd Y2 9 0 = true := (h2.1.2.2 9 0).mpr (Or.inl e2)
  have e4 : dd (dN Y2 q13 13 0 (ou0 Y2)) 9 0 = true := (r13.2.2 9 0).mpr (Or.inl e3)
  have g4 : dd (dN Y2 q13 13 0 (ou0 Y2)) 13 0 = true := dN_d
  have a0 : g_ad (dG (dN (dN Y2 q13 13 0 (ou0 Y2)) q14 14 0 (od0 Y2))) 0 0 = q0 := by rw [(r14.2.1 0 0 d4).1, (r13.2.1 0 0 d3).1, (h2.1.2.1 0 0 d2).1, (r9.2.1 0 0 d1).1, (h1.1.2.1 0 0 d0).1]; exact dN_a
  have a9 : g_ad (dG (dN (dN Y2 q13 13 0 (ou0 Y2)) q14 14 0 (od0 Y2))) 9 0 = q9 := by rw [(r14.2.1 9 0 e4).1, (r13.2.1 9 0 e3).1, (h2.1.2.1 9 0 e2).1]; exact dN_a
  have a13 : g_ad (dG (dN (dN Y2 q13 13 0 (ou0 Y2)) q14 14 0 (od0 Y2))) 13 0 = q13 := by rw [(r14.2.1 13 0 g4).1]; exact dN_a
  have a14 : g_ad (dG (dN (dN Y2 q13 13 0 (ou0 Y2)) q14 14 0 (od0 Y2))) 14 0 = q14 := dN_a
  have hAV : g_A (dG (dN (dN Y2 q13 13 0 (ou0 Y2)) q14 14 0 (od0 Y2))) = fun q : Nat => s.heap.size ≤ q := hA2.trans hA
  have hS : va_S (g_A (dG (dN (dN Y2 q13 13 0 (ou0 Y2)) q14 14 0 (od0 Y2)))) s.heap H locs := hS
  obtain ⟨V, hV⟩ : ∃ z, z = dN (dN Y2 q13 13 0 (ou0 Y2)) q14 14 0 (od0 Y2) := ⟨_, rfl⟩
  rw [← hV] at a0 a9 a13 a14 hAV hS hW hI
  have C : LC p l s m c b L xs (dG V) := ⟨hx, hb, hml, hown, hts, hX, hbl, by rw [hAV]; exact Nat.not_le.mpr hbl, hI.1, hN, hl0, hL⟩
  refine W.widen (k := 2700 + 3 * 0) (n := 71000 + 18 * 0) (Nat.le_of_ble_eq_true rfl) (Nat.le_of_ble_eq_true rfl) ?_
  refine law_loop C hr hlk (fun q h => by rw [hAV] at h; exact h) 64 0 S0 H locs ls rfl Rel0 hW hS ?_
  show lv_has ls 8 [(0, .ref b), (1, .ref (g_ad (dG V) 0 0)), (2, .ref (g_ad (dG V) 9 0)), (3, .ref (g_ad (dG V) 13 0)), (4, .ref (g_ad (dG V) 14 0)), (5, .int (nI 0))]
  rw [a0, a9, a13, a14]
  exact lv_sub hl [5, 4, 3, 2, 1, 0] rfl
