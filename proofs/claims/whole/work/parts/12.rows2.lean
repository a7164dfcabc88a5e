section RW
variable {p : Program} {l : Launch} {e : Env} {R : Room} {s : State} {m : MethodId} {args : Array Value} {below : List Frame} {meth : Method} {c : Code} {H H0 : Heap} {locs : List Loc} {cells slots : Nat} {Q : State → Prop}
variable {cc : ByteArray} {pc : Nat} {ls : Array Slot} {rest : List Value} {Ts : List Cond} {G : Gm} {S S' S1 SX : St} {own ref C : String} {T : u_T} {N ci index i j : Nat}
theorem rcv (hw : wdM G S H s) (hT : wdT G s) (i j : Nat) (hj : j < cnt i) {fs : List Value} (he : memK G S i j = .inr (ci, fs)) (hc : vwCl[ci]? = some (C, T, N)) : ∃ cell : Cell, H[g_ad G i j]? = some cell ∧ cell.vm.isStatics = false ∧ s.vm.findClass C = some cell.cls := by
  have h := wdM_at hw hj
  rw [he] at h
  exact va_recv hT.1 (one_P h) (q0 := 0) hc rfl
theorem gf (hx : p.tables.exec = Jvm.exec) (hb : c.code = cc) (hown : s.vm.findClass own = some m.cls) (hts : ∀ w ∈ Ts, w.before args s = true) (hw : wdM G S H s) (hT : wdT G s) (i j : Nat) (hj : j < cnt i) {fs : List Value} (he : memK G S i j = .inr (ci, fs)) (hc : vwCl[ci]? = some (C, T, N)) (hin : ∀ w ∈ u_ws C T N, w ∈ Ts) (k : Nat) (hk : k < N) (hl : Cond.fieldLink own index (T k).1 (T k).2.1 (T k).2.2.1 ∈ Ts) {v : Value} (hv : fs[k]? = some v) (hdg : decode cc pc = .ok (.getfield index, 3))
    (kk : W p l e R s m args below meth c H locs cells slots Q (F0 m (pc + 3) ls (v :: rest))) : W p l e R s m args below meth c H locs cells slots Q (F0 m pc ls (.ref (g_ad G i j) :: rest)) := by
  have h := wdM_at hw hj
  rw [he] at h
  exact va_get hx hb hts hin hown hT.1 (one_P h) 0 rfl hc k hk (hts _ hl) (fun _ z => z) hv hdg kk
theorem pf (hx : p.tables.exec = Jvm.exec) (hb : c.code = cc) (hown : s.vm.findClass own = some m.cls) (hts : ∀ w ∈ Ts, w.before args s = true) (hw : wdM G S H s) (hT : wdT G s) (hS : va_S (g_A G) H0 H locs) (i j : Nat) (hj : j < cnt i) {fs : List Value} (he : memK G S i j = .inr (ci, fs)) (hc : vwCl[ci]? = some (C, T, N)) (hin : ∀ w ∈ u_ws C T N, w ∈ Ts) (ty0 : Nat → FieldType) (hty : ∀ k, k < N → parseFieldDescriptor (T k).2.2.1 = some (ty0 k)) (hnm : ∀ a, a < N → ∀ b, b < N → a ≠ b → (T a).2.1 ≠ (T b).2.1) (k : Nat) (hk : k < N) (hl : Cond.fieldLink own index (T k).1 (T k).2.1 (T k).2.2.1 ∈ Ts) (hfin : (T k).2.2.2 = false) {ty : FieldType} {v : Value} (hd : parseFieldDescriptor (T k).2.2.1 = some ty) (hn : narrow ty v = v) (hfit : fits ty v = true) (hlen : k < fs.length) (hm : mup G S S' i j (.inr (ci, fs.set k v))) (hdg : decode cc pc = .ok (.putfield index, 3))
    (kk : ∀ (H1 : Heap) (locs1 : List Loc), wdM G S' H1 s → va_S (g_A G) H0 H1 locs1 → W p l e R s m args below meth c H1 locs1 cells slots Q (F0 m (pc + 3) ls rest)) : W p l e R s m args below meth c H locs cells slots Q (F0 m pc ls (v :: .ref (g_ad G i j) :: rest)) := by
  have h := wdM_at hw hj
  rw [he] at h
  have hA := wdM_A hw hj
  obtain ⟨hS1, hfc, kC, hkC, hkind⟩ := hT.1.1 ci _ hc
  have hap := va_apart (own := own) hts hin ty0 hty hnm hT.1 hc
  obtain ⟨r, h1, cell, q1, q2, q3, q4⟩ := h
  have hr : r = (C, T, N) := Option.some.inj (h1.symm.trans hc)
  subst hr
  obtain ⟨cf, kf, fi, f, hi, hsl⟩ := hS1 k hk
  have hlay := hts _ (hin _ (u_in_lay hk))
  unfold u_lay at hlay
  rw [if_neg (by rw [hfin]; decide)] at hlay
  have hst := (u_facts hfc hkC (u_lays hts hin hk) hi).1
  have h6 := u_store hfc hkC hkind hlay hi hd hn hfit
  refine W.putK hx hb (f := f) ⟨hown, hts _ hl, ⟨_, _, _, hi⟩, hst⟩ (by rw [q2]; exact h6) q1 q3 (by rw [hsl]; exact k2_hasslot (q4 k hk)) rfl rfl hdg fun H' e1 e2 e3 => ?_
  rw [hsl] at e1 ⊢
  exact kk H' _ (wdM_set hw hj hm e2 e3 ⟨_, hc, t_OB.to (V := updV (vp_V fs) k v) ⟨_, e1, q2, q3, t_set q4 hap hk v⟩ (fun j _ => vp_updV_set hlen v j)⟩) (hS.put e2 e3 hA)
theorem afl (hx : p.tables.exec = Jvm.exec) (hb : c.code = cc) (hw : wdM G S H s) (hT : wdT G s) (i j : Nat) (hj : j < cnt i) {n : Nat} {f : Nat → UInt32} (he : memK G S i j = .inl (g_cy G 0, n, .inr (.inr (.inl f)))) (k : Nat) (hk : k < n) (hn : n ≤ 65536) (hdg : decode cc pc = .ok (.faload, 1))
    (kk : W p l e R s m args below meth c H locs cells slots Q (F0 m (pc + 1) ls (.float (f k) :: rest))) : W p l e R s m args below meth c H locs cells slots Q (F0 m pc ls (.int (nI k) :: .ref (g_ad G i j) :: rest)) := by
  have h := wdM_at hw hj
  rw [he] at h
  refine va_fald hx hb hT.1 (one_P h) 0 0 rfl rfl (vp_in_nI hk (by omega)) hdg ?_
  rw [nI_clamp (by omega)]
  exact kk
theorem ail (hx : p.tables.exec = Jvm.exec) (hb : c.code = cc) (hw : wdM G S H s) (hT : wdT G s) (i j : Nat) (hj : j < cnt i) {n : Nat} {f : Nat → Int32} (he : memK G S i j = .inl (g_cy G 1, n, .inl f)) (k : Nat) (hk : k < n) (hn : n ≤ 65536) (hdg : decode cc pc = .ok (.iaload, 1))
    (kk : W p l e R s m args below meth c H locs cells slots Q (F0 m (pc + 1) ls (.int (f k) :: rest))) : W p l e R s m args below meth c H locs cells slots Q (F0 m pc ls (.int (nI k) :: .ref (g_ad G i j) :: rest)) := by
  have h := wdM_at hw hj
  rw [he] at h
  refine va_iald hx hb hT.1 (one_P h) 0 1 rfl rfl (vp_in_nI hk (by omega)) hdg ?_
  rw [nI_clamp (by omega)]
  exact kk
theorem all (hx : p.tables.exec = Jvm.exec) (hb : c.code = cc) (hw : wdM G S H s) (hT : wdT G s) (i j : Nat) (hj : j < cnt i) {n : Nat} {f : Nat → Int64} (he : memK G S i j = .inl (g_cy G 2, n, .inr (.inl f))) (k : Nat) (hk : k < n) (hn : n ≤ 65536) (hdg : decode cc pc = .ok (.laload, 1))
    (kk : W p l e R s m args below meth c H locs cells slots Q (F0 m (pc + 1) ls (.long (f k) :: rest))) : W p l e R s m args below meth c H locs cells slots Q (F0 m pc ls (.int (nI k) :: .ref (g_ad G i j) :: rest)) := by
  have h := wdM_at hw hj
  rw [he] at h
  refine va_lald hx hb hT.1 (one_P h) 0 2 rfl rfl (vp_in_nI hk (by omega)) hdg ?_
  rw [nI_clamp (by omega)]
  exact kk
theorem azl (hx : p.tables.exec = Jvm.exec) (hb : c.code = cc) (hw : wdM G S H s) (hT : wdT G s) (i j : Nat) (hj : j < cnt i) {n : Nat} {f : Nat → Int32} (he : memK G S i j = .inl (g_cy G 3, n, .inl f)) (k : Nat) (hk : k < n) (hn : n ≤ 65536) (hdg : decode cc pc = .ok (.baload, 1))
    (kk : W p l e R s m args below meth c H locs cells slots Q (F0 m (pc + 1) ls (.int (f k) :: rest))) : W p l e R s m args below meth c H locs cells slots Q (F0 m pc ls (.int (nI k) :: .ref (g_ad G i j) :: rest)) := by
  have h := wdM_at hw hj
  rw [he] at h
  refine va_zald hx hb hT.1 (one_P h) 0 3 rfl rfl (vp_in_nI hk (by omega)) hdg ?_
  rw [nI_clamp (by omega)]
  exact kk
theorem adl (hx : p.tables.exec = Jvm.exec) (hb : c.code = cc) (hw : wdM G S H s) (hT : wdT G s) (i j : Nat) (hj : j < cnt i) {n : Nat} {f : Nat → UInt64} (he : memK G S i j = .inl (g_cy G 4, n, .inr (.inr (.inr (.inl f))))) (k : Nat) (hk : k < n) (hn : n ≤ 65536) (hdg : decode cc pc = .ok (.daload, 1))
    (kk : W p l e R s m args below meth c H locs cells slots Q (F0 m (pc + 1) ls (.double (f k) :: rest))) : W p l e R s m args below meth c H locs cells slots Q (F0 m pc ls (.int (nI k) :: .ref (g_ad G i j) :: rest)) := by
  have h := wdM_at hw hj
  rw [he] at h
  refine va_dald hx hb hT.1 (one_P h) 0 4 rfl rfl (vp_in_nI hk (by omega)) hdg ?_
  rw [nI_clamp (by omega)]
  exact kk
theorem afs (hx : p.tables.exec = Jvm.exec) (hb : c.code = cc) (hw : wdM G S H s) (hT : wdT G s) (hS : va_S (g_A G) H0 H locs) (i j : Nat) (hj : j < cnt i) {n : Nat} {f : Nat → UInt32} (he : memK G S i j = .inl (g_cy G 0, n, .inr (.inr (.inl f)))) (k : Nat) (hk : k < n) (hn : n ≤ 65536) {x : UInt32} (hm : mup G S S' i j (.inl (g_cy G 0, n, .inr (.inr (.inl (va_up f k x)))))) (hdg : decode cc pc = .ok (.fastore, 1))
    (kk : ∀ (H1 : Heap) (locs1 : List Loc), wdM G S' H1 s → va_S (g_A G) H0 H1 locs1 → W p l e R s m args below meth c H1 locs1 cells slots Q (F0 m (pc + 1) ls rest)) : W p l e R s m args below meth c H locs cells slots Q (F0 m pc ls (.float x :: .int (nI k) :: .ref (g_ad G i j) :: rest)) := by
  have h := wdM_at hw hj
  rw [he] at h
  have hA := wdM_A hw hj
  refine W.fast hx hb h ((hT.1.2 0 _ rfl).1 n (fun j => .float (f j))) (fun q => by cases q) (by show ¬ (nI k < 0 ∨ (arrV _ _ _).slots.size ≤ _); rw [arrV_size]; exact vp_in_nI (N := n) hk (by omega)) rfl rfl hdg fun H1 e1 z oq => ?_
  refine kk H1 _ (wdM_set hw hj hm z oq ?_) (hS.put z oq hA)
  show H1[g_ad G i j]? = some (vp_cell _ _)
  rw [e1]
  rw [vp_cell_f, vp_cell_f, arrV_store, nI_clamp (by omega)]
  congr 2
  funext q
  by_cases hq : q = k
  · subst hq
    simp [updV, va_up]
  · simp [updV, va_up, hq]
theorem ais (hx : p.tables.exec = Jvm.exec) (hb : c.code = cc) (hw : wdM G S H s) (hT : wdT G s) (hS : va_S (g_A G) H0 H locs) (i j : Nat) (hj : j < cnt i) {n : Nat} {f : Nat → Int32} (he : memK G S i j = .inl (g_cy G 1, n, .inl f)) (k : Nat) (hk : k < n) (hn : n ≤ 65536) {x : Int32} (hm : mup G S S' i j (.inl (g_cy G 1, n, .inl (va_up f k x)))) (hdg : decode cc pc = .ok (.iastore, 1))
    (kk : ∀ (H1 : Heap) (locs1 : List Loc), wdM G S' H1 s → va_S (g_A G) H0 H1 locs1 → W p l e R s m args below meth c H1 locs1 cells slots Q (F0 m (pc + 1) ls rest)) : W p l e R s m args below meth c H locs cells slots Q (F0 m pc ls (.int x :: .int (nI k) :: .ref (g_ad G i j) :: rest)) := by
  have h := wdM_at hw hj
  rw [he] at h
  have hA := wdM_A hw hj
  refine W.iast hx hb h ((hT.1.2 1 _ rfl).1 n (fun j => .int (f j))) (fun q => by cases q) (by show ¬ (nI k < 0 ∨ (arrV _ _ _).slots.size ≤ _); rw [arrV_size]; exact vp_in_nI (N := n) hk (by omega)) rfl rfl hdg fun H1 e1 z oq => ?_
  refine kk H1 _ (wdM_set hw hj hm z oq ?_) (hS.put z oq hA)
  show H1[g_ad G i j]? = some (vp_cell _ _)
  rw [e1]
  rw [vp_cell_i, vp_cell_i, arrV_store, nI_clamp (by omega)]
  congr 2
  funext q
  by_cases hq : q = k
  · subst hq
    simp [updV, va_up]
  · simp [updV, va_up, hq]
theorem als (hx : p.tables.exec = Jvm.exec) (hb : c.code = cc) (hw : wdM G S H s) (hT : wdT G s) (hS : va_S (g_A G) H0 H locs) (i j : Nat) (hj : j < cnt i) {n : Nat} {f : Nat → Int64} (he : memK G S i j = .inl (g_cy G 2, n, .inr (.inl f))) (k : Nat) (hk : k < n) (hn : n ≤ 65536) {x : Int64} (hm : mup G S S' i j (.inl (g_cy G 2, n, .inr (.inl (va_up f k x))))) (hdg : decode cc pc = .ok (.lastore, 1))
    (kk : ∀ (H1 : Heap) (locs1 : List Loc), wdM G S' H1 s → va_S (g_A G) H0 H1 locs1 → W p l e R s m args below meth c H1 locs1 cells slots Q (F0 m (pc + 1) ls rest)) : W p l e R s m args below meth c H locs cells slots Q (F0 m pc ls (.long x :: .int (nI k) :: .ref (g_ad G i j) :: rest)) := by
  have h := wdM_at hw hj
  rw [he] at h
  have hA := wdM_A hw hj
  refine W.last hx hb h ((hT.1.2 2 _ rfl).1 n (fun j => .long (f j))) (fun q => by cases q) (by show ¬ (nI k < 0 ∨ (arrV _ _ _).slots.size ≤ _); rw [arrV_size]; exact vp_in_nI (N := n) hk (by omega)) rfl rfl hdg fun H1 e1 z oq => ?_
  refine kk H1 _ (wdM_set hw hj hm z oq ?_) (hS.put z oq hA)
  show H1[g_ad G i j]? = some (vp_cell _ _)
  rw [e1]
  rw [vp_cell_l, vp_cell_l, arrV_store, nI_clamp (by omega)]
  congr 2
  funext q
  by_cases hq : q = k
  · subst hq
    simp [updV, va_up]
  · simp [updV, va_up, hq]
theorem ads (hx : p.tables.exec = Jvm.exec) (hb : c.code = cc) (hw : wdM G S H s) (hT : wdT G s) (hS : va_S (g_A G) H0 H locs) (i j : Nat) (hj : j < cnt i) {n : Nat} {f : Nat → UInt64} (he : memK G S i j = .inl (g_cy G 4, n, .inr (.inr (.inr (.inl f))))) (k : Nat) (hk : k < n) (hn : n ≤ 65536) {x : UInt64} (hm : mup G S S' i j (.inl (g_cy G 4, n, .inr (.inr (.inr (.inl (va_up f k x))))))) (hdg : decode cc pc = .ok (.dastore, 1))
    (kk : ∀ (H1 : Heap) (locs1 : List Loc), wdM G S' H1 s → va_S (g_A G) H0 H1 locs1 → W p l e R s m args below meth c H1 locs1 cells slots Q (F0 m (pc + 1) ls rest)) : W p l e R s m args below meth c H locs cells slots Q (F0 m pc ls (.double x :: .int (nI k) :: .ref (g_ad G i j) :: rest)) := by
  have h := wdM_at hw hj
  rw [he] at h
  have hA := wdM_A hw hj
  refine W.dast hx hb h ((hT.1.2 4 _ rfl).1 n (fun j => .double (f j))) (fun q => by cases q) (by show ¬ (nI k < 0 ∨ (arrV _ _ _).slots.size ≤ _); rw [arrV_size]; exact vp_in_nI (N := n) hk (by omega)) rfl rfl hdg fun H1 e1 z oq => ?_
  refine kk H1 _ (wdM_set hw hj hm z oq ?_) (hS.put z oq hA)
  show H1[g_ad G i j]? = some (vp_cell _ _)
  rw [e1]
  rw [vp_cell_d, vp_cell_d, arrV_store, nI_clamp (by omega)]
  congr 2
  funext q
  by_cases hq : q = k
  · subst hq
    simp [updV, va_up]
  · simp [updV, va_up, hq]
theorem azs (hx : p.tables.exec = Jvm.exec) (hb : c.code = cc) (hw : wdM G S H s) (hT : wdT G s) (hS : va_S (g_A G) H0 H locs) (i j : Nat) (hj : j < cnt i) {n : Nat} {f : Nat → Int32} (he : memK G S i j = .inl (g_cy G 3, n, .inl f)) (k : Nat) (hk : k < n) (hn : n ≤ 65536) {x : Bool} (hm : mup G S S' i j (.inl (g_cy G 3, n, .inl (va_up f k (bI x))))) (hdg : decode cc pc = .ok (.bastore, 1))
    (kk : ∀ (H1 : Heap) (locs1 : List Loc), wdM G S' H1 s → va_S (g_A G) H0 H1 locs1 → W p l e R s m args below meth c H1 locs1 cells slots Q (F0 m (pc + 1) ls rest)) : W p l e R s m args below meth c H locs cells slots Q (F0 m pc ls (.int (bI x) :: .int (nI k) :: .ref (g_ad G i j) :: rest)) := by
  have h := wdM_at hw hj
  rw [he] at h
  have hA := wdM_A hw hj
  refine W.zast hx hb h ((hT.1.2 3 _ rfl).1 n (fun j => .int (f j))) (fun q => by cases q) (by show ¬ (nI k < 0 ∨ (arrV _ _ _).slots.size ≤ _); rw [arrV_size]; exact vp_in_nI (N := n) hk (by omega)) rfl rfl hdg fun H1 e1 z oq => ?_
  refine kk H1 _ (wdM_set hw hj hm z oq ?_) (hS.put z oq hA)
  show H1[g_ad G i j]? = some (vp_cell _ _)
  rw [e1, bI_nar]
  rw [vp_cell_i, vp_cell_i, arrV_store, nI_clamp (by omega)]
  congr 2
  funext q
  by_cases hq : q = k
  · subst hq
    simp [updV, va_up]
  · simp [updV, va_up, hq]
theorem abl (hx : p.tables.exec = Jvm.exec) (hb : c.code = cc) (hw : wdM G S H s) (hT : wdT G s) (k : Nat) (hk : k < 512) (hdg : decode cc pc = .ok (.aaload, 1))
    (kk : W p l e R s m args below meth c H locs cells slots Q (F0 m (pc + 1) ls (.ref (g_ad G 4 k) :: rest))) : W p l e R s m args below meth c H locs cells slots Q (F0 m pc ls (.int (nI k) :: .ref (g_ad G 3 0) :: rest)) := by
  have h := wdM_at hw (show 0 < cnt 3 by decide)
  refine va_aldq hx hb hT.1 (one_P h) 0 5 rfl rfl (vp_in_nI hk (by omega)) hdg ?_
  rw [nI_clamp (by omega)]
  exact kk
theorem ri (hx : p.tables.exec = Jvm.exec) (hb : c.code = cc) (hlk : meth.locks = false) {ty : FieldType} (hr : meth.sig.returnType = some ty) {r v : Int32} {mc ms : Nat} (hw : wdM G S1 H s) (hS : va_S (g_A G) s.heap H locs) (hv : v = r) (hn : narrow ty (.int v) = .int v) (h1 : cells ≤ mc) (h2 : slots ≤ ms) (hdg : decode cc pc = .ok (.ireturn, 1)) : W p l e R s m args below meth c H locs cells slots (MQ below (Qi G r S1) args s mc ms (g_A G)) (F0 m pc ls [.int v]) := by
  subst hv
  exact W.widen h1 h2 (W.zret hx hb hr hn (fun t ht hW => ⟨⟨v, S1, rfl, ⟨rfl, rfl⟩, by show wdM G S1 t.heap t; rw [ht]; exact wdM.moved hW.alike hw⟩, hS.F ht⟩) hS.2.2 hdg hlk)
theorem rf (hx : p.tables.exec = Jvm.exec) (hb : c.code = cc) (hlk : meth.locks = false) (hr : meth.sig.returnType = some .float) {r v : UInt32} {mc ms : Nat} (hw : wdM G S1 H s) (hS : va_S (g_A G) s.heap H locs) (hv : v = r) (h1 : cells ≤ mc) (h2 : slots ≤ ms) (hdg : decode cc pc = .ok (.freturn, 1)) : W p l e R s m args below meth c H locs cells slots (MQ below (Qf G r S1) args s mc ms (g_A G)) (F0 m pc ls [.float v]) := by
  subst hv
  exact W.widen h1 h2 (W.fret hx hb hr (fun t ht hW => ⟨⟨v, S1, rfl, ⟨rfl, rfl⟩, by show wdM G S1 t.heap t; rw [ht]; exact wdM.moved hW.alike hw⟩, hS.F ht⟩) hS.2.2 hdg hlk)
theorem rv (hx : p.tables.exec = Jvm.exec) (hb : c.code = cc) (hlk : meth.locks = false) (hr : meth.sig.returnType = none) {mc ms : Nat} (hw : wdM G S1 H s) (hS : va_S (g_A G) s.heap H locs) (h1 : cells ≤ mc) (h2 : slots ≤ ms) (hdg : decode cc pc = .ok (.return_, 1)) : W p l e R s m args below meth c H locs cells slots (MQ below (Qv G S1) args s mc ms (g_A G)) (F0 m pc ls []) := by
  exact W.widen h1 h2 (W.vret hx hb hr (fun t ht hW => ⟨⟨S1, rfl, rfl, by show wdM G S1 t.heap t; rw [ht]; exact wdM.moved hW.alike hw⟩, hS.F ht⟩) hS.2.2 hdg hlk)
theorem rix (hx : p.tables.exec = Jvm.exec) (hb : c.code = cc) (hlk : meth.locks = false) {ty : FieldType} (hr : meth.sig.returnType = some ty) {x : Option String} {r v : Int32} {mc ms : Nat} (hw : wdM G S1 H s) (hS : va_S (g_A G) s.heap H locs) (hx0 : x = none) (hv : v = r) (hn : narrow ty (.int v) = .int v) (h1 : cells ≤ mc) (h2 : slots ≤ ms) (hdg : decode cc pc = .ok (.ireturn, 1)) : W p l e R s m args below meth c H locs cells slots (vx_MQ below (Ki G x r S1) (Kx G x SX) args s mc ms (g_A G)) (F0 m pc ls [.int v]) := by
  subst hv
  exact W.widen h1 h2 (vx_ret (W.zret hx hb hr hn (fun t ht hW => ⟨⟨v, S1, rfl, ⟨hx0, rfl, rfl⟩, by show wdM G S1 t.heap t; rw [ht]; exact wdM.moved hW.alike hw⟩, hS.F ht⟩) hS.2.2 hdg hlk))
theorem rfx (hx : p.tables.exec = Jvm.exec) (hb : c.code = cc) (hlk : meth.locks = false) (hr : meth.sig.returnType = some .float) {x : Option String} {r v : UInt32} {mc ms : Nat} (hw : wdM G S1 H s) (hS : va_S (g_A G) s.heap H locs) (hx0 : x = none) (hv : v = r) (h1 : cells ≤ mc) (h2 : slots ≤ ms) (hdg : decode cc pc = .ok (.freturn, 1)) : W p l e R s m args below meth c H locs cells slots (vx_MQ below (Kf G x r S1) (Kx G x SX) args s mc ms (g_A G)) (F0 m pc ls [.float v]) := by
  subst hv
  exact W.widen h1 h2 (vx_ret (W.fret hx hb hr (fun t ht hW => ⟨⟨v, S1, rfl, ⟨hx0, rfl, rfl⟩, by show wdM G S1 t.heap t; rw [ht]; exact wdM.moved hW.alike hw⟩, hS.F ht⟩) hS.2.2 hdg hlk))
theorem rvx (hx : p.tables.exec = Jvm.exec) (hb : c.code = cc) (hlk : meth.locks = false) (hr : meth.sig.returnType = none) {x : Option String} {mc ms : Nat} (hw : wdM G S1 H s) (hS : va_S (g_A G) s.heap H locs) (hx0 : x = none) (h1 : cells ≤ mc) (h2 : slots ≤ ms) (hdg : decode cc pc = .ok (.return_, 1)) : W p l e R s m args below meth c H locs cells slots (vx_MQ below (Kv G x S1) (Kx G x SX) args s mc ms (g_A G)) (F0 m pc ls []) := by
  exact W.widen h1 h2 (vx_ret (W.vret hx hb hr (fun t ht hW => ⟨⟨S1, rfl, ⟨hx0, rfl⟩, by show wdM G S1 t.heap t; rw [ht]; exact wdM.moved hW.alike hw⟩, hS.F ht⟩) hS.2.2 hdg hlk))
variable {y : MethodName} {bytes : ByteArray} {maxL nL n : Nat} {ret : Option FieldType} {ws : List Cond} {rm : Room} {b : Nat} {As st0 : List Value}
theorem cVi {r : Int32} (S0 : CallFix p m c cc nL s args Ts own) (hM : Pi l y ws rm (.ref b :: As) G S r S1) (cw : CallW R s args own C index y bytes maxL ret ws rm rm.cells rm.slots n) (hw : wdM G S H s) (hT : wdT G s) (hS : va_S (g_A G) H0 H locs) (hrc : ∃ cell : Cell, H[b]? = some cell ∧ cell.vm.isStatics = false ∧ s.vm.findClass C = some cell.cls) (hn : As.length = n) (hsz : ls.size = nL) (hst : st0 = As.reverse ++ .ref b :: rest) (hW : (rest.map fun v => v.category).sum ≤ 8) (hdg : decode cc pc = .ok (.invokevirtual index, 3)) (hf : cells + rm.cells ≤ R.cells ∧ slots + rm.slots ≤ R.slots)
    (kk : ∀ (H1 : Heap) (locs1 : List Loc), wdM G S1 H1 s → va_S (g_A G) H0 H1 locs1 → W p l e R s m args below meth c H1 locs1 (cells + rm.cells) (slots + rm.slots) Q (F0 m (pc + 3) ls (.int r :: rest))) : W p l e R s m args below meth c H locs cells slots Q (F0 m pc ls st0) := by
  refine va_calli (va_runV (As := As) (rest := rest) S0 hM cw ⟨wd_blind, hrc, fun U hU hW => ⟨rfl, wd_in hw hT hU hW⟩⟩ rfl hn hsz hst (lv_room hW) hdg hf) hS (fun q _ h => h) (fun q h => h) (fun r' u t H1 locs1 ht hvm hp hB hz1 hk1 hS1 => ?_)
  obtain ⟨rfl, rfl⟩ := hp
  exact kk H1 locs1 (by have h9 : wdM G _ t.heap t := hB; rw [ht] at h9; exact wdM.moved hvm.symm h9) hS1
theorem xVi {x : Option String} {r : Int32} (S0 : CallFix p m c cc nL s args Ts own) (hM : Ti l y ws rm (.ref b :: As) G S x SX r S1) (cw : CallW R s args own C index y bytes maxL ret ws rm rm.cells rm.slots n) (hw : wdM G S H s) (hT : wdT G s) (hS : va_S (g_A G) H0 H locs) (hrc : ∃ cell : Cell, H[b]? = some cell ∧ cell.vm.isStatics = false ∧ s.vm.findClass C = some cell.cls) (hn : As.length = n) (hsz : ls.size = nL) (hst : st0 = As.reverse ++ .ref b :: rest) (hW : (rest.map fun v => v.category).sum ≤ 8) (hdg : decode cc pc = .ok (.invokevirtual index, 3)) (hf : cells + rm.cells ≤ R.cells ∧ slots + rm.slots ≤ R.slots)
    (kx : ∀ (E : String) (ce : Cell) (q9 : Addr) (H1 : Heap) (locs1 : List Loc), x = some E → wdM G SX H1 s → va_S (g_A G) H0 H1 locs1 → H1[q9]? = some ce → ce.vm = .none → s.vm.findClass E = some ce.cls → vx_W p l e R s m args below meth c H1 locs1 (cells + rm.cells) (slots + rm.slots) Q (F0 m pc ls rest) q9)
    (kk : ∀ (H1 : Heap) (locs1 : List Loc), x = none → wdM G S1 H1 s → va_S (g_A G) H0 H1 locs1 → W p l e R s m args below meth c H1 locs1 (cells + rm.cells) (slots + rm.slots) Q (F0 m (pc + 3) ls (.int r :: rest))) : W p l e R s m args below meth c H locs cells slots Q (F0 m pc ls st0) := by
  refine vx_calli (vx_runV (As := As) (rest := rest) S0 hM cw ⟨wd_blind, hrc, fun U hU hW => ⟨rfl, wd_in hw hT hU hW⟩⟩ rfl hn hsz hst (lv_room hW) hdg hf) hS (fun q _ h => h) (fun q h => h) (fun q _ h => h) (fun E ce q9 u t H1 locs1 ht hvm hp hB hz1 hk1 hS1 hce hcv hcl => ?_) (fun r' u t H1 locs1 ht hvm hp hB hz1 hk1 hS1 => ?_)
  · exact kx E ce q9 H1 locs1 hB.1 (by have h9 : wdM G _ t.heap t := hB.2; rw [ht] at h9; exact wdM.moved hvm.symm h9) hS1 hce hcv hcl
  · obtain ⟨hx0, rfl, rfl⟩ := hp
    exact kk H1 locs1 hx0 (by have h9 : wdM G _ t.heap t := hB; rw [ht] at h9; exact wdM.moved hvm.symm h9) hS1
theorem cVf {r : UInt32} (S0 : CallFix p m c cc nL s args Ts own) (hM : Pf l y ws rm (.ref b :: As) G S r S1) (cw : CallW R s args own C index y bytes maxL ret ws rm rm.cells rm.slots n) (hw : wdM G S H s) (hT : wdT G s) (hS : va_S (g_A G) H0 H locs) (hrc : ∃ cell : Cell, H[b]? = some cell ∧ cell.vm.isStatics = false ∧ s.vm.findClass C = some cell.cls) (hn : As.length = n) (hsz : ls.size = nL) (hst : st0 = As.reverse ++ .ref b :: rest) (hW : (rest.map fun v => v.category).sum ≤ 8) (hdg : decode cc pc = .ok (.invokevirtual index, 3)) (hf : cells + rm.cells ≤ R.cells ∧ slots + rm.slots ≤ R.slots)
    (kk : ∀ (H1 : Heap) (locs1 : List Loc), wdM G S1 H1 s → va_S (g_A G) H0 H1 locs1 → W p l e R s m args below meth c H1 locs1 (cells + rm.cells) (slots + rm.slots) Q (F0 m (pc + 3) ls (.float r :: rest))) : W p l e R s m args below meth c H locs cells slots Q (F0 m pc ls st0) := by
  refine va_callf (va_runV (As := As) (rest := rest) S0 hM cw ⟨wd_blind, hrc, fun U hU hW => ⟨rfl, wd_in hw hT hU hW⟩⟩ rfl hn hsz hst (lv_room hW) hdg hf) hS (fun q _ h => h) (fun q h => h) (fun r' u t H1 locs1 ht hvm hp hB hz1 hk1 hS1 => ?_)
  obtain ⟨rfl, rfl⟩ := hp
  exact kk H1 locs1 (by have h9 : wdM G _ t.heap t := hB; rw [ht] at h9; exact wdM.moved hvm.symm h9) hS1
theorem xVf {x : Option String} {r : UInt32} (S0 : CallFix p m c cc nL s args Ts own) (hM : Tf l y ws rm (.ref b :: As) G S x SX r S1) (cw : CallW R s args own C index y bytes maxL ret ws rm rm.cells rm.slots n) (hw : wdM G S H s) (hT : wdT G s) (hS : va_S (g_A G) H0 H locs) (hrc : ∃ cell : Cell, H[b]? = some cell ∧ cell.vm.isStatics = false ∧ s.vm.findClass C = some cell.cls) (hn : As.length = n) (hsz : ls.size = nL) (hst : st0 = As.reverse ++ .ref b :: rest) (hW : (rest.map fun v => v.category).sum ≤ 8) (hdg : decode cc pc = .ok (.invokevirtual index, 3)) (hf : cells + rm.cells ≤ R.cells ∧ slots + rm.slots ≤ R.slots)
    (kx : ∀ (E : String) (ce : Cell) (q9 : Addr) (H1 : Heap) (locs1 : List Loc), x = some E → wdM G SX H1 s → va_S (g_A G) H0 H1 locs1 → H1[q9]? = some ce → ce.vm = .none → s.vm.findClass E = some ce.cls → vx_W p l e R s m args below meth c H1 locs1 (cells + rm.cells) (slots + rm.slots) Q (F0 m pc ls rest) q9)
    (kk : ∀ (H1 : Heap) (locs1 : List Loc), x = none → wdM G S1 H1 s → va_S (g_A G) H0 H1 locs1 → W p l e R s m args below meth c H1 locs1 (cells + rm.cells) (slots + rm.slots) Q (F0 m (pc + 3) ls (.float r :: rest))) : W p l e R s m args below meth c H locs cells slots Q (F0 m pc ls st0) := by
  refine vx_callf (vx_runV (As := As) (rest := rest) S0 hM cw ⟨wd_blind, hrc, fun U hU hW => ⟨rfl, wd_in hw hT hU hW⟩⟩ rfl hn hsz hst (lv_room hW) hdg hf) hS (fun q _ h => h) (fun q h => h) (fun q _ h => h) (fun E ce q9 u t H1 locs1 ht hvm hp hB hz1 hk1 hS1 hce hcv hcl => ?_) (fun r' u t H1 locs1 ht hvm hp hB hz1 hk1 hS1 => ?_)
  · exact kx E ce q9 H1 locs1 hB.1 (by have h9 : wdM G _ t.heap t := hB.2; rw [ht] at h9; exact wdM.moved hvm.symm h9) hS1 hce hcv hcl
  · obtain ⟨hx0, rfl, rfl⟩ := hp
    exact kk H1 locs1 hx0 (by have h9 : wdM G _ t.heap t := hB; rw [ht] at h9; exact wdM.moved hvm.symm h9) hS1
theorem cVv (S0 : CallFix p m c cc nL s args Ts own) (hM : Pv l y ws rm (.ref b :: As) G S S1) (cw : CallW R s args own C index y bytes maxL ret ws rm rm.cells rm.slots n) (hw : wdM G S H s) (hT : wdT G s) (hS : va_S (g_A G) H0 H locs) (hrc : ∃ cell : Cell, H[b]? = some cell ∧ cell.vm.isStatics = false ∧ s.vm.findClass C = some cell.cls) (hn : As.length = n) (hsz : ls.size = nL) (hst : st0 = As.reverse ++ .ref b :: rest) (hW : (rest.map fun v => v.category).sum ≤ 8) (hdg : decode cc pc = .ok (.invokevirtual index, 3)) (hf : cells + rm.cells ≤ R.cells ∧ slots + rm.slots ≤ R.slots)
    (kk : ∀ (H1 : Heap) (locs1 : List Loc), wdM G S1 H1 s → va_S (g_A G) H0 H1 locs1 → W p l e R s m args below meth c H1 locs1 (cells + rm.cells) (slots + rm.slots) Q (F0 m (pc + 3) ls (rest))) : W p l e R s m args below meth c H locs cells slots Q (F0 m pc ls st0) := by
  refine va_callv (va_runV (As := As) (rest := rest) S0 hM cw ⟨wd_blind, hrc, fun U hU hW => ⟨rfl, wd_in hw hT hU hW⟩⟩ rfl hn hsz hst (lv_room hW) hdg hf) hS (fun q _ h => h) (fun q h => h) (fun  u t H1 locs1 ht hvm hp hB hz1 hk1 hS1 => ?_)
  obtain rfl := hp
  exact kk H1 locs1 (by have h9 : wdM G _ t.heap t := hB; rw [ht] at h9; exact wdM.moved hvm.symm h9) hS1
theorem xVv {x : Option String} (S0 : CallFix p m c cc nL s args Ts own) (hM : Tv l y ws rm (.ref b :: As) G S x SX S1) (cw : CallW R s args own C index y bytes maxL ret ws rm rm.cells rm.slots n) (hw : wdM G S H s) (hT : wdT G s) (hS : va_S (g_A G) H0 H locs) (hrc : ∃ cell : Cell, H[b]? = some cell ∧ cell.vm.isStatics = false ∧ s.vm.findClass C = some cell.cls) (hn : As.length = n) (hsz : ls.size = nL) (hst : st0 = As.reverse ++ .ref b :: rest) (hW : (rest.map fun v => v.category).sum ≤ 8) (hdg : decode cc pc = .ok (.invokevirtual index, 3)) (hf : cells + rm.cells ≤ R.cells ∧ slots + rm.slots ≤ R.slots)
    (kx : ∀ (E : String) (ce : Cell) (q9 : Addr) (H1 : Heap) (locs1 : List Loc), x = some E → wdM G SX H1 s → va_S (g_A G) H0 H1 locs1 → H1[q9]? = some ce → ce.vm = .none → s.vm.findClass E = some ce.cls → vx_W p l e R s m args below meth c H1 locs1 (cells + rm.cells) (slots + rm.slots) Q (F0 m pc ls rest) q9)
    (kk : ∀ (H1 : Heap) (locs1 : List Loc), x = none → wdM G S1 H1 s → va_S (g_A G) H0 H1 locs1 → W p l e R s m args below meth c H1 locs1 (cells + rm.cells) (slots + rm.slots) Q (F0 m (pc + 3) ls (rest))) : W p l e R s m args below meth c H locs cells slots Q (F0 m pc ls st0) := by
  refine vx_callv (vx_runV (As := As) (rest := rest) S0 hM cw ⟨wd_blind, hrc, fun U hU hW => ⟨rfl, wd_in hw hT hU hW⟩⟩ rfl hn hsz hst (lv_room hW) hdg hf) hS (fun q _ h => h) (fun q h => h) (fun q _ h => h) (fun E ce q9 u t H1 locs1 ht hvm hp hB hz1 hk1 hS1 hce hcv hcl => ?_) (fun  u t H1 locs1 ht hvm hp hB hz1 hk1 hS1 => ?_)
  · exact kx E ce q9 H1 locs1 hB.1 (by have h9 : wdM G _ t.heap t := hB.2; rw [ht] at h9; exact wdM.moved hvm.symm h9) hS1 hce hcv hcl
  · obtain ⟨hx0, rfl⟩ := hp
    exact kk H1 locs1 hx0 (by have h9 : wdM G _ t.heap t := hB; rw [ht] at h9; exact wdM.moved hvm.symm h9) hS1
theorem cSi {r : Int32} (S0 : CallFix p m c cc nL s args Ts own) (hM : Pi l y ws rm As G S r S1) (cw : CallB R s args own index y bytes maxL ret ws rm rm.cells rm.slots n ∧ (Cond.static y).before args s = true) (hw : wdM G S H s) (hT : wdT G s) (hS : va_S (g_A G) H0 H locs) (hn : As.length = n) (hsz : ls.size = nL) (hst : st0 = As.reverse ++ rest) (hW : (rest.map fun v => v.category).sum ≤ 8) (hdg : decode cc pc = .ok (.invokestatic index, 3)) (hf : cells + rm.cells ≤ R.cells ∧ slots + rm.slots ≤ R.slots)
    (kk : ∀ (H1 : Heap) (locs1 : List Loc), wdM G S1 H1 s → va_S (g_A G) H0 H1 locs1 → W p l e R s m args below meth c H1 locs1 (cells + rm.cells) (slots + rm.slots) Q (F0 m (pc + 3) ls (.int r :: rest))) : W p l e R s m args below meth c H locs cells slots Q (F0 m pc ls st0) := by
  refine va_calli (va_runS (As := As) (rest := rest) S0 hM cw ⟨wd_blind, fun U hU hW => ⟨rfl, wd_in hw hT hU hW⟩⟩ rfl hn hsz hst (lv_room hW) hdg hf) hS (fun q _ h => h) (fun q h => h) (fun r' u t H1 locs1 ht hvm hp hB hz1 hk1 hS1 => ?_)
  obtain ⟨rfl, rfl⟩ := hp
  exact kk H1 locs1 (by have h9 : wdM G _ t.heap t := hB; rw [ht] at h9; exact wdM.moved hvm.symm h9) hS1
theorem xSi {x : Option String} {r : Int32} (S0 : CallFix p m c cc nL s args Ts own) (hM : Ti l y ws rm As G S x SX r S1) (cw : CallB R s args own index y bytes maxL ret ws rm rm.cells rm.slots n ∧ (Cond.static y).before args s = true) (hw : wdM G S H s) (hT : wdT G s) (hS : va_S (g_A G) H0 H locs) (hn : As.length = n) (hsz : ls.size = nL) (hst : st0 = As.reverse ++ rest) (hW : (rest.map fun v => v.category).sum ≤ 8) (hdg : decode cc pc = .ok (.invokestatic index, 3)) (hf : cells + rm.cells ≤ R.cells ∧ slots + rm.slots ≤ R.slots)
    (kx : ∀ (E : String) (ce : Cell) (q9 : Addr) (H1 : Heap) (locs1 : List Loc), x = some E → wdM G SX H1 s → va_S (g_A G) H0 H1 locs1 → H1[q9]? = some ce → ce.vm = .none → s.vm.findClass E = some ce.cls → vx_W p l e R s m args below meth c H1 locs1 (cells + rm.cells) (slots + rm.slots) Q (F0 m pc ls rest) q9)
    (kk : ∀ (H1 : Heap) (locs1 : List Loc), x = none → wdM G S1 H1 s → va_S (g_A G) H0 H1 locs1 → W p l e R s m args below meth c H1 locs1 (cells + rm.cells) (slots + rm.slots) Q (F0 m (pc + 3) ls (.int r :: rest))) : W p l e R s m args below meth c H locs cells slots Q (F0 m pc ls st0) := by
  refine vx_calli (vx_runS (As := As) (rest := rest) S0 hM cw ⟨wd_blind, fun U hU hW => ⟨rfl, wd_in hw hT hU hW⟩⟩ rfl hn hsz hst (lv_room hW) hdg hf) hS (fun q _ h => h) (fun q h => h) (fun q _ h => h) (fun E ce q9 u t H1 locs1 ht hvm hp hB hz1 hk1 hS1 hce hcv hcl => ?_) (fun r' u t H1 locs1 ht hvm hp hB hz1 hk1 hS1 => ?_)
  · exact kx E ce q9 H1 locs1 hB.1 (by have h9 : wdM G _ t.heap t := hB.2; rw [ht] at h9; exact wdM.moved hvm.symm h9) hS1 hce hcv hcl
  · obtain ⟨hx0, rfl, rfl⟩ := hp
    exact kk H1 locs1 hx0 (by have h9 : wdM G _ t.heap t := hB; rw [ht] at h9; exact wdM.moved hvm.symm h9) hS1
theorem cSf {r : UInt32} (S0 : CallFix p m c cc nL s args Ts own) (hM : Pf l y ws rm As G S r S1) (cw : CallB R s args own index y bytes maxL ret ws rm rm.cells rm.slots n ∧ (Cond.static y).before args s = true) (hw : wdM G S H s) (hT : wdT G s) (hS : va_S (g_A G) H0 H locs) (hn : As.length = n) (hsz : ls.size = nL) (hst : st0 = As.reverse ++ rest) (hW : (rest.map fun v => v.category).sum ≤ 8) (hdg : decode cc pc = .ok (.invokestatic index, 3)) (hf : cells + rm.cells ≤ R.cells ∧ slots + rm.slots ≤ R.slots)
    (kk : ∀ (H1 : Heap) (locs1 : List Loc), wdM G S1 H1 s → va_S (g_A G) H0 H1 locs1 → W p l e R s m args below meth c H1 locs1 (cells + rm.cells) (slots + rm.slots) Q (F0 m (pc + 3) ls (.float r :: rest))) : W p l e R s m args below meth c H locs cells slots Q (F0 m pc ls st0) := by
  refine va_callf (va_runS (As := As) (rest := rest) S0 hM cw ⟨wd_blind, fun U hU hW => ⟨rfl, wd_in hw hT hU hW⟩⟩ rfl hn hsz hst (lv_room hW) hdg hf) hS (fun q _ h => h) (fun q h => h) (fun r' u t H1 locs1 ht hvm hp hB hz1 hk1 hS1 => ?_)
  obtain ⟨rfl, rfl⟩ := hp
  exact kk H1 locs1 (by have h9 : wdM G _ t.heap t := hB; rw [ht] at h9; exact wdM.moved hvm.symm h9) hS1
theorem xSf {x : Option String} {r : UInt32} (S0 : CallFix p m c cc nL s args Ts own) (hM : Tf l y ws rm As G S x SX r S1) (cw : CallB R s args own index y bytes maxL ret ws rm rm.cells rm.slots n ∧ (Cond.static y).before args s = true) (hw : wdM G S H s) (hT : wdT G s) (hS : va_S (g_A G) H0 H locs) (hn : As.length = n) (hsz : ls.size = nL) (hst : st0 = As.reverse ++ rest) (hW : (rest.map fun v => v.category).sum ≤ 8) (hdg : decode cc pc = .ok (.invokestatic index, 3)) (hf : cells + rm.cells ≤ R.cells ∧ slots + rm.slots ≤ R.slots)
    (kx : ∀ (E : String) (ce : Cell) (q9 : Addr) (H1 : Heap) (locs1 : List Loc), x = some E → wdM G SX H1 s → va_S (g_A G) H0 H1 locs1 → H1[q9]? = some ce → ce.vm = .none → s.vm.findClass E = some ce.cls → vx_W p l e R s m args below meth c H1 locs1 (cells + rm.cells) (slots + rm.slots) Q (F0 m pc ls rest) q9)
    (kk : ∀ (H1 : Heap) (locs1 : List Loc), x = none → wdM G S1 H1 s → va_S (g_A G) H0 H1 locs1 → W p l e R s m args below meth c H1 locs1 (cells + rm.cells) (slots + rm.slots) Q (F0 m (pc + 3) ls (.float r :: rest))) : W p l e R s m args below meth c H locs cells slots Q (F0 m pc ls st0) := by
  refine vx_callf (vx_runS (As := As) (rest := rest) S0 hM cw ⟨wd_blind, fun U hU hW => ⟨rfl, wd_in hw hT hU hW⟩⟩ rfl hn hsz hst (lv_room hW) hdg hf) hS (fun q _ h => h) (fun q h => h) (fun q _ h => h) (fun E ce q9 u t H1 locs1 ht hvm hp hB hz1 hk1 hS1 hce hcv hcl => ?_) (fun r' u t H1 locs1 ht hvm hp hB hz1 hk1 hS1 => ?_)
  · exact kx E ce q9 H1 locs1 hB.1 (by have h9 : wdM G _ t.heap t := hB.2; rw [ht] at h9; exact wdM.moved hvm.symm h9) hS1 hce hcv hcl
  · obtain ⟨hx0, rfl, rfl⟩ := hp
    exact kk H1 locs1 hx0 (by have h9 : wdM G _ t.heap t := hB; rw [ht] at h9; exact wdM.moved hvm.symm h9) hS1
theorem cSv (S0 : CallFix p m c cc nL s args Ts own) (hM : Pv l y ws rm As G S S1) (cw : CallB R s args own index y bytes maxL ret ws rm rm.cells rm.slots n ∧ (Cond.static y).before args s = true) (hw : wdM G S H s) (hT : wdT G s) (hS : va_S (g_A G) H0 H locs) (hn : As.length = n) (hsz : ls.size = nL) (hst : st0 = As.reverse ++ rest) (hW : (rest.map fun v => v.category).sum ≤ 8) (hdg : decode cc pc = .ok (.invokestatic index, 3)) (hf : cells + rm.cells ≤ R.cells ∧ slots + rm.slots ≤ R.slots)
    (kk : ∀ (H1 : Heap) (locs1 : List Loc), wdM G S1 H1 s → va_S (g_A G) H0 H1 locs1 → W p l e R s m args below meth c H1 locs1 (cells + rm.cells) (slots + rm.slots) Q (F0 m (pc + 3) ls (rest))) : W p l e R s m args below meth c H locs cells slots Q (F0 m pc ls st0) := by
  refine va_callv (va_runS (As := As) (rest := rest) S0 hM cw ⟨wd_blind, fun U hU hW => ⟨rfl, wd_in hw hT hU hW⟩⟩ rfl hn hsz hst (lv_room hW) hdg hf) hS (fun q _ h => h) (fun q h => h) (fun  u t H1 locs1 ht hvm hp hB hz1 hk1 hS1 => ?_)
  obtain rfl := hp
  exact kk H1 locs1 (by have h9 : wdM G _ t.heap t := hB; rw [ht] at h9; exact wdM.moved hvm.symm h9) hS1
theorem xSv {x : Option String} (S0 : CallFix p m c cc nL s args Ts own) (hM : Tv l y ws rm As G S x SX S1) (cw : CallB R s args own index y bytes maxL ret ws rm rm.cells rm.slots n ∧ (Cond.static y).before args s = true) (hw : wdM G S H s) (hT : wdT G s) (hS : va_S (g_A G) H0 H locs) (hn : As.length = n) (hsz : ls.size = nL) (hst : st0 = As.reverse ++ rest) (hW : (rest.map fun v => v.category).sum ≤ 8) (hdg : decode cc pc = .ok (.invokestatic index, 3)) (hf : cells + rm.cells ≤ R.cells ∧ slots + rm.slots ≤ R.slots)
    (kx : ∀ (E : String) (ce : Cell) (q9 : Addr) (H1 : Heap) (locs1 : List Loc), x = some E → wdM G SX H1 s → va_S (g_A G) H0 H1 locs1 → H1[q9]? = some ce → ce.vm = .none → s.vm.findClass E = some ce.cls → vx_W p l e R s m args below meth c H1 locs1 (cells + rm.cells) (slots + rm.slots) Q (F0 m pc ls rest) q9)
    (kk : ∀ (H1 : Heap) (locs1 : List Loc), x = none → wdM G S1 H1 s → va_S (g_A G) H0 H1 locs1 → W p l e R s m args below meth c H1 locs1 (cells + rm.cells) (slots + rm.slots) Q (F0 m (pc + 3) ls (rest))) : W p l e R s m args below meth c H locs cells slots Q (F0 m pc ls st0) := by
  refine vx_callv (vx_runS (As := As) (rest := rest) S0 hM cw ⟨wd_blind, fun U hU hW => ⟨rfl, wd_in hw hT hU hW⟩⟩ rfl hn hsz hst (lv_room hW) hdg hf) hS (fun q _ h => h) (fun q h => h) (fun q _ h => h) (fun E ce q9 u t H1 locs1 ht hvm hp hB hz1 hk1 hS1 hce hcv hcl => ?_) (fun  u t H1 locs1 ht hvm hp hB hz1 hk1 hS1 => ?_)
  · exact kx E ce q9 H1 locs1 hB.1 (by have h9 : wdM G _ t.heap t := hB.2; rw [ht] at h9; exact wdM.moved hvm.symm h9) hS1 hce hcv hcl
  · obtain ⟨hx0, rfl⟩ := hp
    exact kk H1 locs1 hx0 (by have h9 : wdM G _ t.heap t := hB; rw [ht] at h9; exact wdM.moved hvm.symm h9) hS1
theorem cNi {host : String} {r : Int32} (S0 : CallFix p m c cc nL s args Ts own) (hM : Pi l y ws rm As G S r S1) (cw : va_CN R s args own index y host bytes maxL ret ws rm rm.cells rm.slots n ∧ (Cond.static y).before args s = true ∧ True) (hw : wdM G S H s) (hT : wdT G s) (hS : va_S (g_A G) H0 H locs) (hn : As.length = n) (hsz : ls.size = nL) (hst : st0 = As.reverse ++ rest) (hW : (rest.map fun v => v.category).sum ≤ 8) (hdg : decode cc pc = .ok (.invokestatic index, 3)) (hf : cells + rm.cells ≤ R.cells ∧ slots + rm.slots ≤ R.slots)
    (kk : ∀ (H1 : Heap) (locs1 : List Loc), wdM G S1 H1 s → va_S (g_A G) H0 H1 locs1 → W p l e R s m args below meth c H1 locs1 (cells + rm.cells) (slots + rm.slots) Q (F0 m (pc + 3) ls (.int r :: rest))) : W p l e R s m args below meth c H locs cells slots Q (F0 m pc ls st0) := by
  refine va_calli (va_runSN (As := As) (rest := rest) S0 hM cw ⟨wd_blind, fun U hU hW => ⟨rfl, wd_in hw hT hU hW⟩⟩ rfl hn hsz hst (lv_room hW) hdg hf) hS (fun q _ h => h) (fun q h => h) (fun r' u t H1 locs1 ht hvm hp hB hz1 hk1 hS1 => ?_)
  obtain ⟨rfl, rfl⟩ := hp
  exact kk H1 locs1 (by have h9 : wdM G _ t.heap t := hB; rw [ht] at h9; exact wdM.moved hvm.symm h9) hS1
theorem cNf {host : String} {r : UInt32} (S0 : CallFix p m c cc nL s args Ts own) (hM : Pf l y ws rm As G S r S1) (cw : va_CN R s args own index y host bytes maxL ret ws rm rm.cells rm.slots n ∧ (Cond.static y).before args s = true ∧ True) (hw : wdM G S H s) (hT : wdT G s) (hS : va_S (g_A G) H0 H locs) (hn : As.length = n) (hsz : ls.size = nL) (hst : st0 = As.reverse ++ rest) (hW : (rest.map fun v => v.category).sum ≤ 8) (hdg : decode cc pc = .ok (.invokestatic index, 3)) (hf : cells + rm.cells ≤ R.cells ∧ slots + rm.slots ≤ R.slots)
    (kk : ∀ (H1 : Heap) (locs1 : List Loc), wdM G S1 H1 s → va_S (g_A G) H0 H1 locs1 → W p l e R s m args below meth c H1 locs1 (cells + rm.cells) (slots + rm.slots) Q (F0 m (pc + 3) ls (.float r :: rest))) : W p l e R s m args below meth c H locs cells slots Q (F0 m pc ls st0) := by
  refine va_callf (va_runSN (As := As) (rest := rest) S0 hM cw ⟨wd_blind, fun U hU hW => ⟨rfl, wd_in hw hT hU hW⟩⟩ rfl hn hsz hst (lv_room hW) hdg hf) hS (fun q _ h => h) (fun q h => h) (fun r' u t H1 locs1 ht hvm hp hB hz1 hk1 hS1 => ?_)
  obtain ⟨rfl, rfl⟩ := hp
  exact kk H1 locs1 (by have h9 : wdM G _ t.heap t := hB; rw [ht] at h9; exact wdM.moved hvm.symm h9) hS1
theorem cNv {host : String} (S0 : CallFix p m c cc nL s args Ts own) (hM : Pv l y ws rm As G S S1) (cw : va_CN R s args own index y host bytes maxL ret ws rm rm.cells rm.slots n ∧ (Cond.static y).before args s = true ∧ True) (hw : wdM G S H s) (hT : wdT G s) (hS : va_S (g_A G) H0 H locs) (hn : As.length = n) (hsz : ls.size = nL) (hst : st0 = As.reverse ++ rest) (hW : (rest.map fun v => v.category).sum ≤ 8) (hdg : decode cc pc = .ok (.invokestatic index, 3)) (hf : cells + rm.cells ≤ R.cells ∧ slots + rm.slots ≤ R.slots)
    (kk : ∀ (H1 : Heap) (locs1 : List Loc), wdM G S1 H1 s → va_S (g_A G) H0 H1 locs1 → W p l e R s m args below meth c H1 locs1 (cells + rm.cells) (slots + rm.slots) Q (F0 m (pc + 3) ls (rest))) : W p l e R s m args below meth c H locs cells slots Q (F0 m pc ls st0) := by
  refine va_callv (va_runSN (As := As) (rest := rest) S0 hM cw ⟨wd_blind, fun U hU hW => ⟨rfl, wd_in hw hT hU hW⟩⟩ rfl hn hsz hst (lv_room hW) hdg hf) hS (fun q _ h => h) (fun q h => h) (fun  u t H1 locs1 ht hvm hp hB hz1 hk1 hS1 => ?_)
  obtain rfl := hp
  exact kk H1 locs1 (by have h9 : wdM G _ t.heap t := hB; rw [ht] at h9; exact wdM.moved hvm.symm h9) hS1
theorem xo {x : Option String} {E : String} {ce : Cell} {q : Addr} {mc ms : Nat} {Qc : Array Value → State → Outcome → State → Prop} (hte : ∀ z ∈ c.exceptionTable.toList, False) (hlk : meth.locks = false) (hx0 : x = some E) (hw : wdM G SX H s) (hS : va_S (g_A G) s.heap H locs) (hce : H[q]? = some ce) (hcv : ce.vm = .none) (hcl : s.vm.findClass E = some ce.cls) (h1 : cells ≤ mc) (h2 : slots ≤ ms) : vx_W p l e R s m args below meth c H locs cells slots (vx_MQ below Qc (Kx G x SX) args s mc ms (g_A G)) (F0 m pc ls rest) q :=
  vx_out (fun z hz => (hte z hz).elim) hlk hce hcv hcl (fun t ht hvm => ⟨(), trivial, ⟨hx0, by show wdM G SX t.heap t; rw [ht]; exact wdM.moved hvm hw⟩, hS.F ht⟩) hS.2.2 h1 h2
theorem thrA_n : (vx_atS RX3 73 xA ["java/lang/RuntimeException", "java/lang/Exception"]).filter (fun w => !goodWord w) = [.declares (Bundle.initS "java/lang/RuntimeException"), .declares (Bundle.initS "java/lang/Exception"), .declares (Bundle.initS Bundle.tN), .castable xA xA] := by decide +kernel
theorem thrA_g : ∀ w ∈ Cond.classLink RX3 69 xA :: Cond.initialized xA :: vx_atS RX3 73 xA ["java/lang/RuntimeException", "java/lang/Exception"], vx_ot w = true := by decide +kernel
theorem thrA {x : Option String} {text : String} {is mc ms : Nat} {Qc : Array Value → State → Outcome → State → Prop} (hx : p.tables.exec = Jvm.exec) (hb : c.code = cc) (hl : l.stackTraces = false) (hown : s.vm.findClass RX3 = some m.cls) (hts : ∀ w ∈ Ts, w.before args s = true) (hlk : meth.locks = false) (hml : c.maxLocals = nL) (hsz : ls.size = nL) (hw : wdM G SX H s) (hT : wdT G s) (hS : va_S (g_A G) s.heap H locs) (hte : ∀ z ∈ c.exceptionTable.toList, False) (hx0 : x = some xA)
    (w1 : Cond.classLink RX3 69 xA ∈ Ts) (w2 : Cond.initialized xA ∈ Ts) (w3 : ∀ w ∈ (vx_atS RX3 73 xA ["java/lang/RuntimeException", "java/lang/Exception"]).filter goodWord, w ∈ Ts) (hstr : (is, text) ∈ strW) (hsH : s.heap.size ≤ H.size)
    (d0 : decode cc pc = .ok (.new 69, 3)) (d3 : decode cc (pc + 3) = .ok (.dup, 1)) (d4 : decode cc (pc + 4) = .ok (.ldc is, 2)) (d6 : decode cc (pc + 6) = .ok (.invokespecial 73, 3)) (d9 : decode cc (pc + 9) = .ok (.athrow, 1))
    (hR1 : 5 < R.frames) (hR2 : (rest.map fun v => v.category).sum + 82 ≤ R.locals) (hR3 : cells + 1 ≤ R.cells) (hR4 : slots + 6 ≤ R.slots) (h1 : cells + 1 ≤ mc) (h2 : slots + 6 ≤ ms) (hz1 : vx_Zq Bundle.tN "UNASSIGNED_STACK" Bundle.steD (g_A G) s s.heap) (hz2 : vx_Zq Bundle.tN "SUPPRESSED_SENTINEL" Bundle.listD (g_A G) s s.heap) : W p l e R s m args below meth c H locs cells slots (vx_MQ below Qc (Kx G x SX) args s mc ms (g_A G)) (F0 m pc ls rest) := by
  obtain ⟨sa, hsa⟩ := hT.2.1 _ hstr
  refine vx_throwS (A := g_A G) (names := ["java/lang/RuntimeException", "java/lang/Exception"]) hx hb hl hown (by decide +kernel) (by decide +kernel) (hts _ w1) (hts _ w2) hsa (vx_hat (B := [.declares (Bundle.initS "java/lang/RuntimeException"), .declares (Bundle.initS "java/lang/Exception"), .declares (Bundle.initS Bundle.tN), .castable xA xA]) (fun w h => hts w (w3 w h)) (by rw [thrA_n]; exact fun w h => h) (vx_c (va_Nw.use rfl (hT.2.2.2.2 _ (by decide +kernel))) (vx_c (va_Nw.use rfl (hT.2.2.2.2 _ (by decide +kernel))) (vx_c (va_Nw.use rfl (hT.2.2.2.2 _ (by decide +kernel))) (vx_c (va_Nw.use rfl (hT.2.2.2.1 _ (by decide +kernel))) vx_n))))) thrA_g hz1 hz2 hS (hsz.trans hml.symm) d0 d3 d4 d6 d9 (fun z hz => (hte z hz).elim) hR1 (by simpa using hR2) hR3 hR4 hlk (fun t hvm hz hk => ?_) hS.2.2 h1 h2
  refine ⟨(), trivial, ⟨hx0, ?_⟩, ⟨Nat.le_trans hsH hz, fun q hq hnA => ?_⟩⟩
  · show wdM G SX t.heap t
    have hw2 := wdM.moved hvm hw
    obtain ⟨a1, a2, a3, a4, a5, a6⟩ := hw2
    exact ⟨a1, fun q hq => a2 q (Nat.le_trans hz hq), a3.kept (fun k q hq => hk q.1 (a3 k q hq).lt), a4, vx_Zq.kept a5 (fun a h _ => hk a h), vx_Zq.kept a6 (fun a h _ => hk a h)⟩
  · rw [hk q (Nat.lt_of_lt_of_le hq hsH)]
    exact hS.2.1 q hq hnA
theorem thrS_n : (vx_atS RX3 149 xS ["java/lang/RuntimeException", "java/lang/Exception"]).filter (fun w => !goodWord w) = [.declares (Bundle.initS "java/lang/RuntimeException"), .declares (Bundle.initS "java/lang/Exception"), .declares (Bundle.initS Bundle.tN), .castable xS xS] := by decide +kernel
theorem thrS_g : ∀ w ∈ Cond.classLink RX3 145 xS :: Cond.initialized xS :: vx_atS RX3 149 xS ["java/lang/RuntimeException", "java/lang/Exception"], vx_ot w = true := by decide +kernel
theorem thrS {x : Option String} {text : String} {is mc ms : Nat} {Qc : Array Value → State → Outcome → State → Prop} (hx : p.tables.exec = Jvm.exec) (hb : c.code = cc) (hl : l.stackTraces = false) (hown : s.vm.findClass RX3 = some m.cls) (hts : ∀ w ∈ Ts, w.before args s = true) (hlk : meth.locks = false) (hml : c.maxLocals = nL) (hsz : ls.size = nL) (hw : wdM G SX H s) (hT : wdT G s) (hS : va_S (g_A G) s.heap H locs) (hte : ∀ z ∈ c.exceptionTable.toList, False) (hx0 : x = some xS)
    (w1 : Cond.classLink RX3 145 xS ∈ Ts) (w2 : Cond.initialized xS ∈ Ts) (w3 : ∀ w ∈ (vx_atS RX3 149 xS ["java/lang/RuntimeException", "java/lang/Exception"]).filter goodWord, w ∈ Ts) (hstr : (is, text) ∈ strW) (hsH : s.heap.size ≤ H.size)
    (d0 : decode cc pc = .ok (.new 145, 3)) (d3 : decode cc (pc + 3) = .ok (.dup, 1)) (d4 : decode cc (pc + 4) = .ok (.ldc is, 2)) (d6 : decode cc (pc + 6) = .ok (.invokespecial 149, 3)) (d9 : decode cc (pc + 9) = .ok (.athrow, 1))
    (hR1 : 5 < R.frames) (hR2 : (rest.map fun v => v.category).sum + 82 ≤ R.locals) (hR3 : cells + 1 ≤ R.cells) (hR4 : slots + 6 ≤ R.slots) (h1 : cells + 1 ≤ mc) (h2 : slots + 6 ≤ ms) (hz1 : vx_Zq Bundle.tN "UNASSIGNED_STACK" Bundle.steD (g_A G) s s.heap) (hz2 : vx_Zq Bundle.tN "SUPPRESSED_SENTINEL" Bundle.listD (g_A G) s s.heap) : W p l e R s m args below meth c H locs cells slots (vx_MQ below Qc (Kx G x SX) args s mc ms (g_A G)) (F0 m pc ls rest) := by
  obtain ⟨sa, hsa⟩ := hT.2.1 _ hstr
  refine vx_throwS (A := g_A G) (names := ["java/lang/RuntimeException", "java/lang/Exception"]) hx hb hl hown (by decide +kernel) (by decide +kernel) (hts _ w1) (hts _ w2) hsa (vx_hat (B := [.declares (Bundle.initS "java/lang/RuntimeException"), .declares (Bundle.initS "java/lang/Exception"), .declares (Bundle.initS Bundle.tN), .castable xS xS]) (fun w h => hts w (w3 w h)) (by rw [thrS_n]; exact fun w h => h) (vx_c (va_Nw.use rfl (hT.2.2.2.2 _ (by decide +kernel))) (vx_c (va_Nw.use rfl (hT.2.2.2.2 _ (by decide +kernel))) (vx_c (va_Nw.use rfl (hT.2.2.2.2 _ (by decide +kernel))) (vx_c (va_Nw.use rfl (hT.2.2.2.1 _ (by decide +kernel))) vx_n))))) thrS_g hz1 hz2 hS (hsz.trans hml.symm) d0 d3 d4 d6 d9 (fun z hz => (hte z hz).elim) hR1 (by simpa using hR2) hR3 hR4 hlk (fun t hvm hz hk => ?_) hS.2.2 h1 h2
  refine ⟨(), trivial, ⟨hx0, ?_⟩, ⟨Nat.le_trans hsH hz, fun q hq hnA => ?_⟩⟩
  · show wdM G SX t.heap t
    have hw2 := wdM.moved hvm hw
    obtain ⟨a1, a2, a3, a4, a5, a6⟩ := hw2
    exact ⟨a1, fun q hq => a2 q (Nat.le_trans hz hq), a3.kept (fun k q hq => hk q.1 (a3 k q hq).lt), a4, vx_Zq.kept a5 (fun a h _ => hk a h), vx_Zq.kept a6 (fun a h _ => hk a h)⟩
  · rw [hk q (Nat.lt_of_lt_of_le hq hsH)]
    exact hS.2.1 q hq hnA
theorem thrI_n : (vx_atS RX3 100 xI ["java/lang/RuntimeException", "java/lang/Exception"]).filter (fun w => !goodWord w) = [.declares (Bundle.initS "java/lang/RuntimeException"), .declares (Bundle.initS "java/lang/Exception"), .declares (Bundle.initS Bundle.tN), .castable xI xI] := by decide +kernel
theorem thrI_g : ∀ w ∈ Cond.classLink RX3 96 xI :: Cond.initialized xI :: vx_atS RX3 100 xI ["java/lang/RuntimeException", "java/lang/Exception"], vx_ot w = true := by decide +kernel
theorem thrI {x : Option String} {text : String} {is mc ms : Nat} {Qc : Array Value → State → Outcome → State → Prop} (hx : p.tables.exec = Jvm.exec) (hb : c.code = cc) (hl : l.stackTraces = false) (hown : s.vm.findClass RX3 = some m.cls) (hts : ∀ w ∈ Ts, w.before args s = true) (hlk : meth.locks = false) (hml : c.maxLocals = nL) (hsz : ls.size = nL) (hw : wdM G SX H s) (hT : wdT G s) (hS : va_S (g_A G) s.heap H locs) (hte : ∀ z ∈ c.exceptionTable.toList, False) (hx0 : x = some xI)
    (w1 : Cond.classLink RX3 96 xI ∈ Ts) (w2 : Cond.initialized xI ∈ Ts) (w3 : ∀ w ∈ (vx_atS RX3 100 xI ["java/lang/RuntimeException", "java/lang/Exception"]).filter goodWord, w ∈ Ts) (hstr : (is, text) ∈ strW) (hsH : s.heap.size ≤ H.size)
    (d0 : decode cc pc = .ok (.new 96, 3)) (d3 : decode cc (pc + 3) = .ok (.dup, 1)) (d4 : decode cc (pc + 4) = .ok (.ldc is, 2)) (d6 : decode cc (pc + 6) = .ok (.invokespecial 100, 3)) (d9 : decode cc (pc + 9) = .ok (.athrow, 1))
    (hR1 : 5 < R.frames) (hR2 : (rest.map fun v => v.category).sum + 82 ≤ R.locals) (hR3 : cells + 1 ≤ R.cells) (hR4 : slots + 6 ≤ R.slots) (h1 : cells + 1 ≤ mc) (h2 : slots + 6 ≤ ms) (hz1 : vx_Zq Bundle.tN "UNASSIGNED_STACK" Bundle.steD (g_A G) s s.heap) (hz2 : vx_Zq Bundle.tN "SUPPRESSED_SENTINEL" Bundle.listD (g_A G) s s.heap) : W p l e R s m args below meth c H locs cells slots (vx_MQ below Qc (Kx G x SX) args s mc ms (g_A G)) (F0 m pc ls rest) := by
  obtain ⟨sa, hsa⟩ := hT.2.1 _ hstr
  refine vx_throwS (A := g_A G) (names := ["java/lang/RuntimeException", "java/lang/Exception"]) hx hb hl hown (by decide +kernel) (by decide +kernel) (hts _ w1) (hts _ w2) hsa (vx_hat (B := [.declares (Bundle.initS "java/lang/RuntimeException"), .declares (Bundle.initS "java/lang/Exception"), .declares (Bundle.initS Bundle.tN), .castable xI xI]) (fun w h => hts w (w3 w h)) (by rw [thrI_n]; exact fun w h => h) (vx_c (va_Nw.use rfl (hT.2.2.2.2 _ (by decide +kernel))) (vx_c (va_Nw.use rfl (hT.2.2.2.2 _ (by decide +kernel))) (vx_c (va_Nw.use rfl (hT.2.2.2.2 _ (by decide +kernel))) (vx_c (va_Nw.use rfl (hT.2.2.2.1 _ (by decide +kernel))) vx_n))))) thrI_g hz1 hz2 hS (hsz.trans hml.symm) d0 d3 d4 d6 d9 (fun z hz => (hte z hz).elim) hR1 (by simpa using hR2) hR3 hR4 hlk (fun t hvm hz hk => ?_) hS.2.2 h1 h2
  refine ⟨(), trivial, ⟨hx0, ?_⟩, ⟨Nat.le_trans hsH hz, fun q hq hnA => ?_⟩⟩
  · show wdM G SX t.heap t
    have hw2 := wdM.moved hvm hw
    obtain ⟨a1, a2, a3, a4, a5, a6⟩ := hw2
    exact ⟨a1, fun q hq => a2 q (Nat.le_trans hz hq), a3.kept (fun k q hq => hk q.1 (a3 k q hq).lt), a4, vx_Zq.kept a5 (fun a h _ => hk a h), vx_Zq.kept a6 (fun a h _ => hk a h)⟩
  · rw [hk q (Nat.lt_of_lt_of_le hq hsH)]
    exact hS.2.1 q hq hnA
end RW
