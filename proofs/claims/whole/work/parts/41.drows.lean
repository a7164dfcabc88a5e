/-! Rows over the world in the making -/
def wdI (G : Gm) (U : State) : Prop := wdT G U ∧ va_Nw (.methodLinkNest RX0 9 yX1_init "PairFinder") U ∧ va_Nw (.methodLinkNest RX3 9 yX1_init "PairFinder") U ∧ va_Nw (.methodLinkNest RX3 22 yX0_init "PairFinder") U ∧ va_Nw (.methodLinkNest RX3 25 yX2_init "PairFinder") U ∧ va_AO "PairFinder$Body" U
theorem wdI.warm {G : Gm} {s U : State} (h : wdI G s) (hW : s.WarmedH U.vm) : wdI G U := ⟨wdT.warm h.1 hW, va_Nw.warmM hW h.2.1, va_Nw.warmM hW h.2.2.1, va_Nw.warmM hW h.2.2.2.1, va_Nw.warmM hW h.2.2.2.2.1, va_AO.moved hW.alike h.2.2.2.2.2⟩
def dw (X : Dw) (U : State) : Prop := dwM X U.heap U ∧ wdI (dG X) U
abbrev dM (X : Dw) (U : State) : Prop := dwM X U.heap U
theorem dw_blind {av : List Value} {X : Dw} : FrameBlind (va_Pc av (dw X)) := fun a U g mk q => ⟨q.1, dwM.moved (u := U) (U := U.calling g mk a) (Vm.Alike.refl U.vm) q.2.1, wdI.warm (s := U) (U := U.calling g mk a) q.2.2 (State.WarmedH.refl U)⟩
theorem dw_in {X : Dw} {H : Heap} {s U : State} (hw : dwM X H s) (hT : wdI (dG X) s) (hU : U.heap = H) (hW : s.WarmedH U.vm) : dw X U := ⟨by rw [hU]; exact dwM.moved hW.alike hw, wdI.warm hT hW⟩
def PN (l : Launch) (y : MethodName) (ws : List Cond) (rm : Room) (av : List Value) (X : Dw) (post : Dw → Prop) : Prop := Met l y ws rm (va_Pc av (dw X)) (va_Qv post dM (g_A (dG X))) rm.cells rm.slots (g_A (dG X))
theorem entN {l : Launch} {y : MethodName} {ws ws' : List Cond} {rm : Room} {av : List Value} {X : Dw} {post : Dw → Prop} {cc : ByteArray} {maxL : Nat} {ret : Option FieldType}
    (hy : plainName y.cls = true) (hws : ws = Cond.code y cc maxL ret :: ws') (hlen : (lg_sl av).length ≤ maxL)
    (body : ∀ (p : Program) (e : Env) (s : State) (m : MethodId) (below : List Frame) (meth : Method) (c : Code) (ls : Array Slot), Cx p s m meth c av.toArray cc maxL ret ws y.cls → meth.name = y.name → dwM X s.heap s → wdI (dG X) s → va_S (g_A (dG X)) s.heap s.heap [] → lv_has ls maxL (lv_args 0 av) →
      W p l e rm s m av.toArray below meth c s.heap [] 0 0 (MQ below (va_Qv post dM (g_A (dG X))) av.toArray s rm.cells rm.slots (g_A (dG X))) (F0 m 0 ls [])) : PN l y ws rm av X post := by
  refine Met.ofW (cc := cc) (maxL := maxL) (ret := ret) hy hws ?_
  intro p e s m args below meth c s₁ B hml hv
  obtain ⟨rfl, hM, hT⟩ := hv
  rw [lg_entry_eq]
  exact body p e s m below meth c _ ⟨B.exec, B.bytes, B.returns, hml, findClass_of_methodNamed B.named, atoms_spec (ws := ws) B.pre, B.notSynchronized⟩ (name_of_methodNamed B.named B.method).1 hM hT va_S.rf (lv_entry av hlen)
theorem ra_f {s : State} {a b : ClassId} (h1 : va_RA s a .float) (h2 : va_RA s b .float) : a = b := Option.some.inj (Eq.trans (Eq.symm h1) h2)
theorem ra_i {s : State} {a b : ClassId} (h1 : va_RA s a .int) (h2 : va_RA s b .int) : a = b := Option.some.inj (Eq.trans (Eq.symm h1) h2)
theorem ra_l {s : State} {a b : ClassId} (h1 : va_RA s a .long) (h2 : va_RA s b .long) : a = b := Option.some.inj (Eq.trans (Eq.symm h1) h2)
theorem ra_z {s : State} {a b : ClassId} (h1 : va_RA s a .boolean) (h2 : va_RA s b .boolean) : a = b := Option.some.inj (Eq.trans (Eq.symm h1) h2)
theorem ra_d {s : State} {a b : ClassId} (h1 : va_RA s a .double) (h2 : va_RA s b .double) : a = b := Option.some.inj (Eq.trans (Eq.symm h1) h2)
theorem ra_q {s : State} {C : String} {a b : ClassId} (h1 : va_RA s a (.object C)) (h2 : va_RA s b (.object C)) : a = b := by
  obtain ⟨_, _, _, _, _, h1⟩ := h1
  obtain ⟨_, _, _, _, _, h2⟩ := h2
  exact Option.some.inj (h1.symm.trans h2)
section DR
variable {p : Program} {l : Launch} {e : Env} {R : Room} {s : State} {m : MethodId} {args : Array Value} {below : List Frame} {meth : Method} {c : Code} {H H0 : Heap} {locs : List Loc} {cells slots : Nat} {Q : State → Prop}
variable {cc : ByteArray} {pc nL : Nat} {ls : Array Slot} {rest : List Value} {Ts : List Cond} {X : Dw} {own : String} {index : Nat}
theorem rvN (hx : p.tables.exec = Jvm.exec) (hb : c.code = cc) (hlk : meth.locks = false) (hr : meth.sig.returnType = none) {A : Nat → Prop} {post : Dw → Prop} {Y : Dw} {mc ms : Nat} (hp : post Y) (hw : dwM Y H s) (hS : va_S A s.heap H locs) (h1 : cells ≤ mc) (h2 : slots ≤ ms) (hdg : decode cc pc = .ok (.return_, 1)) : W p l e R s m args below meth c H locs cells slots (MQ below (va_Qv post dM A) args s mc ms A) (F0 m pc ls []) :=
  W.widen h1 h2 (W.vret hx hb hr (fun t ht hW => ⟨⟨Y, rfl, hp, by show dwM Y t.heap t; rw [ht]; exact dwM.moved hW.alike hw⟩, hS.F ht⟩) hS.2.2 hdg hlk)
theorem obN (hx : p.tables.exec = Jvm.exec) (hb : c.code = cc) (hml : c.maxLocals = nL) (hown : s.vm.findClass own = some m.cls) (hts : ∀ w ∈ Ts, w.before args s = true) (w1 : Cond.methodLink own index objectInit ∈ Ts) (w2 : Cond.instanceMethod objectInit ∈ Ts) (w3 : Cond.code objectInit ⟨#[0xb1]⟩ 1 none ∈ Ts) (hsz : ls.size = nL) {a : Nat} (hdg : decode cc pc = .ok (.invokespecial index, 3)) (hR1 : 1 ≤ R.frames) (hR2 : 12 ≤ R.locals)
    (kk : W p l e R s m args below meth c H locs cells slots Q (F0 m (pc + 3) ls [])) : W p l e R s m args below meth c H locs cells slots Q (F0 m pc ls [.ref a]) := by
  refine W.objInit hx hb hown (hts _ w1) (hts _ w2) (hts _ w3) rfl (by rw [hml]; exact hsz) rfl hdg hR1 hR2 ?_
  exact W.eq (g2 := F0 m (pc + 3) ls []) rfl kk
theorem nOb (hx : p.tables.exec = Jvm.exec) (hb : c.code = cc) (hown : s.vm.findClass own = some m.cls) (hts : ∀ w ∈ Ts, w.before args s = true) {C : String} {T : u_T} {N ci : Nat} (hin : ∀ w ∈ u_ws C T N, w ∈ Ts) (ty : Nat → FieldType) (hty : ∀ k, k < N → parseFieldDescriptor (T k).2.2.1 = some (ty k)) (w1 : Cond.classLink own index C ∈ Ts) (w2 : Cond.instantiable C N ∈ Ts) (w3 : Cond.initialized C ∈ Ts) (hw : dwM X H s) (hT : wdT (dG X) s) (hS : va_S (g_A (dG X)) H0 H locs) (i j : Nat) (hd : dd X i j = false) (hc : vwCl[ci]? = some (C, T, N)) {fs : List Value} (hfs : ∀ j, j < N → defaultValue (ty j) = vp_V fs j) (hcells : cells + 1 ≤ R.cells) (hslots : slots + N ≤ R.slots) (hdg : decode cc pc = .ok (.new index, 3))
    (kk : ∀ (q : Nat) (H1 : Heap), dwM (dN X q i j (.inr (ci, fs))) H1 s → va_S (g_A (dG X)) H0 H1 locs → W p l e R s m args below meth c H1 locs (cells + 1) (slots + N) Q (F0 m (pc + 3) ls (.ref q :: rest))) : W p l e R s m args below meth c H locs cells slots Q (F0 m pc ls rest) :=
  va_new hx hb hts hin ty hty hown (hts _ w1) (hts _ w2) (hts _ w3) hT.1 hw.2.2.1 hw.2.2.2.1 hS.self hw.2.1 hc hfs hcells hslots hdg (fun q H1 hP1 hD1 hS1 => kk q H1 (dwM_new hw hd hS1 hP1 hD1) (hS.tr hS1))
theorem nAr (hx : p.tables.exec = Jvm.exec) (hb : c.code = cc) (hts : ∀ w ∈ Ts, w.before args s = true) {atype : ArrayType} {ty : FieldType} (w1 : Cond.arrayClass (newarray.typeOf atype) ∈ Ts) (hty : newarray.typeOf atype = ty) (hw : dwM X H s) (hT : wdT (dG X) s) (hS : va_S (g_A (dG X)) H0 H locs) (i j t0 : Nat) {cy : ClassId} (ht : (g_ty (dG X))[t0]? = some (cy, ty)) (hra : ∀ {a b : ClassId}, va_RA s a ty → va_RA s b ty → a = b) (hd : dd X i j = false) {n : Int32} {N' : Nat} {a0 : vp_A} (ha : ∀ cA : ClassId, vp_cell cA a0 = arrV cA N' (fun _ => defaultValue ty)) (hn : ¬ n < 0) (hN : n.toNatClampNeg = N') (hbytes : N' * componentBytes ty ≤ 536870912) (hcells : cells + 1 ≤ R.cells) (hslots : slots + N' ≤ R.slots) (hdg : decode cc pc = .ok (.newarray atype, 2))
    (kk : ∀ (q : Nat) (H1 : Heap), dwM (dN X q i j (.inl (cy, a0))) H1 s → va_S (g_A (dG X)) H0 H1 locs → W p l e R s m args below meth c H1 locs (cells + 1) (slots + N') Q (F0 m (pc + 2) ls (.ref q :: rest))) : W p l e R s m args below meth c H locs cells slots Q (F0 m pc ls (.int n :: rest)) := by
  refine va_newa hx hb (hts _ w1) hty hT.1 hw.2.2.1 hw.2.2.2.1 hS.self hw.2.1 ha hn hN hbytes hcells hslots hdg (fun q cA H1 hK1 hP1 hD1 hS1 => ?_)
  have e1 : cA = cy := hra (hK1.2 6 (cA, ty) rfl).2 (hT.1.2 t0 (cy, ty) ht).2
  subst e1
  exact kk q H1 (dwM_new hw hd hS1 hP1 hD1) (hS.tr hS1)
theorem nAq (hx : p.tables.exec = Jvm.exec) (hb : c.code = cc) (hown : s.vm.findClass own = some m.cls) (hts : ∀ w ∈ Ts, w.before args s = true) (w1 : Cond.classLink own index "PairFinder$Body" ∈ Ts) (hw : dwM X H s) (hT : wdI (dG X) s) (hS : va_S (g_A (dG X)) H0 H locs) (i j : Nat) (hd : dd X i j = false) (hcells : cells + 1 ≤ R.cells) (hslots : slots + 512 ≤ R.slots) (hdg : decode cc pc = .ok (.anewarray index, 3))
    (kk : ∀ (q : Nat) (H1 : Heap), dwM (dN X q i j (.inl (g_cy (dG X) 5, 512, .inr (.inr (.inr (.inr (fun _ => none))))))) H1 s → va_S (g_A (dG X)) H0 H1 locs → W p l e R s m args below meth c H1 locs (cells + 1) (slots + 512) Q (F0 m (pc + 3) ls (.ref q :: rest))) : W p l e R s m args below meth c H locs cells slots Q (F0 m pc ls (.int (nI 512) :: rest)) := by
  refine va_newq hx hb hown (hts _ w1) hT.2.2.2.2.2 hT.1.1 hw.2.2.1 hw.2.2.2.1 hS.self hw.2.1 (by decide) (by decide) (by decide) hcells hslots hdg (fun q cA H1 hK1 hP1 hD1 hS1 => ?_)
  have e1 : cA = g_cy (dG X) 5 := ra_q (hK1.2 6 (cA, .object "PairFinder$Body") rfl).2 (hT.1.1.2 5 (g_cy (dG X) 5, .object "PairFinder$Body") rfl).2
  subst e1
  exact kk q H1 (dwM_new hw hd hS1 hP1 hD1) (hS.tr hS1)
theorem pfN (hx : p.tables.exec = Jvm.exec) (hb : c.code = cc) (hown : s.vm.findClass own = some m.cls) (hts : ∀ w ∈ Ts, w.before args s = true) (hw : dwM X H s) (hT : wdT (dG X) s) (hS : va_S (g_A (dG X)) H0 H locs) (i j : Nat) (hd : dd X i j = true) {C : String} {T : u_T} {N ci : Nat} {fs : List Value} (he : dc X i j = .inr (ci, fs)) (hc : vwCl[ci]? = some (C, T, N)) (hin : ∀ w ∈ u_ws C T N, w ∈ Ts) (ty0 : Nat → FieldType) (hty : ∀ k, k < N → parseFieldDescriptor (T k).2.2.1 = some (ty0 k)) (hnm : ∀ a, a < N → ∀ b, b < N → a ≠ b → (T a).2.1 ≠ (T b).2.1) (k : Nat) (hk : k < N) (hl : Cond.fieldLink own index (T k).1 (T k).2.1 (T k).2.2.1 ∈ Ts) (hfi : (T k).2.2.2 = false ∨ (meth.name = "<init>" ∧ (T k).1 = own)) {ty : FieldType} {v : Value} (hdd : parseFieldDescriptor (T k).2.2.1 = some ty) (hn : narrow ty v = v) (hfit : fits ty v = true) (hlen : k < fs.length) {a : Nat} (ha : a = g_ad (dG X) i j) (hdg : decode cc pc = .ok (.putfield index, 3))
    (kk : ∀ (H1 : Heap) (locs1 : List Loc), dwM (dP X i j (.inr (ci, fs.set k v))) H1 s → va_S (g_A (dG X)) H0 H1 locs1 → W p l e R s m args below meth c H1 locs1 cells slots Q (F0 m (pc + 3) ls rest)) : W p l e R s m args below meth c H locs cells slots Q (F0 m pc ls (v :: .ref a :: rest)) := by
  subst ha
  obtain ⟨q0, hq0⟩ := dwM_at hw hd
  have hq1 := hq0
  rw [he] at hq1
  cases hff : (T k).2.2.2 with
  | false => exact va_put hx hb hts hin ty0 hty hnm hown hT.1 hw.2.2.1 hw.2.2.2.1 hS.self q0 hq1 hc k hk (hts _ hl) (fun _ z => z) hff hdd hn hfit hlen hdg (fun H1 locs1 hP1 hD1 hS1 => kk H1 locs1 (dwM_put hw hd hS1 hq0 hP1 hD1) (hS.tr hS1))
  | true =>
    rcases hfi with h | ⟨h1, h2⟩
    · rw [hff] at h; cases h
    · exact va_putF hx hb hts hin ty0 hty hnm hown hT.1 hw.2.2.1 hw.2.2.2.1 hS.self q0 hq1 hc k hk (hts _ hl) (fun _ z => z) hff h1 h2 hdd hn hfit hlen hdg (fun H1 locs1 hP1 hD1 hS1 => kk H1 locs1 (dwM_put hw hd hS1 hq0 hP1 hD1) (hS.tr hS1))
theorem gfN (hx : p.tables.exec = Jvm.exec) (hb : c.code = cc) (hown : s.vm.findClass own = some m.cls) (hts : ∀ w ∈ Ts, w.before args s = true) (hw : dwM X H s) (hT : wdT (dG X) s) (i j : Nat) (hd : dd X i j = true) {C : String} {T : u_T} {N ci : Nat} {fs : List Value} (he : dc X i j = .inr (ci, fs)) (hc : vwCl[ci]? = some (C, T, N)) (hin : ∀ w ∈ u_ws C T N, w ∈ Ts) (k : Nat) (hk : k < N) (hl : Cond.fieldLink own index (T k).1 (T k).2.1 (T k).2.2.1 ∈ Ts) {v : Value} (hv : fs[k]? = some v) {a : Nat} (ha : a = g_ad (dG X) i j) (hdg : decode cc pc = .ok (.getfield index, 3))
    (kk : W p l e R s m args below meth c H locs cells slots Q (F0 m (pc + 3) ls (v :: rest))) : W p l e R s m args below meth c H locs cells slots Q (F0 m pc ls (.ref a :: rest)) := by
  subst ha
  obtain ⟨q0, hq0⟩ := dwM_at hw hd
  rw [he] at hq0
  exact va_get hx hb hts hin hown hT.1 hw.2.2.1 q0 hq0 hc k hk (hts _ hl) (fun _ z => z) hv hdg kk
theorem asN (hx : p.tables.exec = Jvm.exec) (hb : c.code = cc) (hw : dwM X H s) (hT : wdT (dG X) s) (hS : va_S (g_A (dG X)) H0 H locs) {f : Nat → Option Nat} (hd : dd X 3 0 = true) (he : dc X 3 0 = .inl (g_cy (dG X) 5, 512, .inr (.inr (.inr (.inr f))))) (k : Nat) (hk : k < 512) (hd4 : dd X 4 k = true) {vs : List Value} (he4 : dc X 4 k = .inr (0, vs)) {a v : Nat} (ha : a = g_ad (dG X) 3 0) (hv : v = g_ad (dG X) 4 k) (hdg : decode cc pc = .ok (.aastore, 1))
    (kk : ∀ (H1 : Heap) (locs1 : List Loc), dwM (dP X 3 0 (.inl (g_cy (dG X) 5, 512, .inr (.inr (.inr (.inr (va_up f k (some v)))))))) H1 s → va_S (g_A (dG X)) H0 H1 locs1 → W p l e R s m args below meth c H1 locs1 cells slots Q (F0 m (pc + 1) ls rest)) : W p l e R s m args below meth c H locs cells slots Q (F0 m pc ls (.ref v :: .int (nI k) :: .ref a :: rest)) := by
  subst ha hv
  obtain ⟨q0, hq0⟩ := dwM_at hw hd
  obtain ⟨q4, hq4⟩ := dwM_at hw hd4
  have hq1 := hq0
  rw [he] at hq1
  rw [he4] at hq4
  have ek : (nI k).toNatClampNeg = k := nI_clamp (by omega)
  refine va_astq (r := (RX0, TX0, 6)) hx hb hT.1 hw.2.2.1 hw.2.2.2.1 hS.self q0 5 q4 0 hq1 rfl hq4 rfl (i := nI k) ?_ hdg (fun H1 locs1 hP1 hD1 hS1 => ?_)
  · rintro (z | z)
    · exact nI_pos (by omega) z
    · rw [ek] at z; omega
  · rw [ek] at hP1 hD1
    exact kk H1 locs1 (dwM_put hw hd hS1 hq0 hP1 hD1) (hS.tr hS1)
variable {y : MethodName} {bytes : ByteArray} {maxL n : Nat} {ws : List Cond} {rm : Room} {b : Nat} {st0 : List Value}
theorem cIN {host : String} {post : Dw → Prop} (S0 : CallFix p m c cc nL s args Ts own) (hM : PN l y ws rm [.ref b] X post) (cw : va_CN R s args own index y host bytes maxL none ws rm rm.cells rm.slots 0 ∧ y.name = "<init>" ∧ (Cond.instanceMethod y).before args s = true) (hw : dwM X H s) (hT : wdI (dG X) s) (hS : va_S (g_A (dG X)) H0 H locs) (hsz : ls.size = nL) (hW : (rest.map fun v => v.category).sum ≤ 8) (hdg : decode cc pc = .ok (.invokespecial index, 3)) (hf : cells + rm.cells ≤ R.cells ∧ slots + rm.slots ≤ R.slots)
    (kk : ∀ (Y : Dw) (H1 : Heap) (locs1 : List Loc), post Y → dwM Y H1 s → va_S (g_A (dG X)) H0 H1 locs1 → W p l e R s m args below meth c H1 locs1 (cells + rm.cells) (slots + rm.slots) Q (F0 m (pc + 3) ls rest)) : W p l e R s m args below meth c H locs cells slots Q (F0 m pc ls (.ref b :: rest)) := by
  refine va_callv (va_runIN (As := []) (rest := rest) S0 hM cw ⟨dw_blind, fun U hU hW => ⟨rfl, dw_in hw hT hU hW⟩⟩ rfl rfl hsz rfl (lv_room hW) hdg hf) hS (fun q _ h => h) (fun q h => h) (fun Y t H1 locs1 ht hvm hp hB hz1 hk1 hS1 => ?_)
  exact kk Y H1 locs1 hp (by have h9 : dwM Y t.heap t := hB; rw [ht] at h9; exact dwM.moved hvm.symm h9) hS1
end DR
