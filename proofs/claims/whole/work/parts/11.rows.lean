/-! Worlds over the state, contracts, rows -/
def strW : List (Nat × String) := [(147, "there would be more than 16384 pairs"), (157, "which is not 0 .. 2"), (159, "there is no such pair"), (190, "what is not 0 .. 11"), (204, "what is not 0 .. 3"), (210, "what is not 0 .. 6"), (216, "a number is not -16384 .. 16384"), (218, "a movement is not -256 .. 256"), (224, "the pad is no box"), (226, "too few bodies are not there"), (228, "there is no such body"), (230, "there is no such place in FOUND"), (71, "n is not 1 .. 512"), (83, "a number would be bad"), (98, "from .. to are no numbers of bodies")]
abbrev xA : String := "java/lang/IllegalArgumentException"
abbrev xS : String := "java/lang/IllegalStateException"
abbrev xI : String := "java/lang/IndexOutOfBoundsException"
def wdT (G : Gm) (U : State) : Prop := va_K (g_dC G, g_dI G) vwCl (g_ty G) U ∧ (∀ q ∈ strW, ∃ sa, vk_R RX3 q.1 q.2 sa U) ∧ va_Nw (.methodLinkNest RX1 26 yX3_isWithin "PairFinder") U ∧ (∀ E ∈ [xA, xS, xI], va_Nw (.castable E E) U) ∧ ∀ E ∈ ["java/lang/RuntimeException", "java/lang/Exception", Bundle.tN], va_Nw (.declares (Bundle.initS E)) U
def wdM (G : Gm) (S : St) (H : Heap) (U : State) : Prop := lay G ∧ (∀ q, H.size ≤ q → g_A G q) ∧ va_P (g_dC G, g_dI G) vwCl (va_pl (g_L G) (mem G S)) H ∧ va_D (g_A G) (va_pl (g_L G) (mem G S)) ∧ vx_Zq Bundle.tN "UNASSIGNED_STACK" Bundle.steD (g_A G) U H ∧ vx_Zq Bundle.tN "SUPPRESSED_SENTINEL" Bundle.listD (g_A G) U H
def wd (G : Gm) (S : St) (U : State) : Prop := wdM G S U.heap U ∧ wdT G U
theorem wdT.warm {G : Gm} {s U : State} (h : wdT G s) (hW : s.WarmedH U.vm) : wdT G U := ⟨va_K.moved hW.alike h.1, fun q hq => (h.2.1 q hq).elim fun sa h1 => ⟨sa, vk_R.warm hW h1⟩, va_Nw.warmM hW h.2.2.1, fun E hE => va_Nw.warmC hW (h.2.2.2.1 E hE), fun E hE => va_Nw.warmD hW (h.2.2.2.2 E hE)⟩
theorem wdM.moved {G : Gm} {S : St} {H : Heap} {u U : State} (hvm : u.vm.Alike U.vm) (h : wdM G S H u) : wdM G S H U := ⟨h.1, h.2.1, h.2.2.1, h.2.2.2.1, vx_Zq.moved hvm h.2.2.2.2.1, vx_Zq.moved hvm h.2.2.2.2.2⟩
theorem wd_blind {av : List Value} {G : Gm} {S : St} : FrameBlind (va_Pc av (wd G S)) := fun a U g mk q => ⟨q.1, wdM.moved (u := U) (U := U.calling g mk a) (Vm.Alike.refl U.vm) q.2.1, wdT.warm (s := U) (U := U.calling g mk a) q.2.2 (State.WarmedH.refl U)⟩
theorem wd_in {G : Gm} {S : St} {H : Heap} {s U : State} (hw : wdM G S H s) (hT : wdT G s) (hU : U.heap = H) (hW : s.WarmedH U.vm) : wd G S U := ⟨by rw [hU]; exact wdM.moved hW.alike hw, wdT.warm hT hW⟩
/-- the heap is written at the cell i, j alone -/
theorem wdM_set {G : Gm} {S S' : St} {H H1 : Heap} {s : State} {i j : Nat} {e : va_E} (hw : wdM G S H s) (hj : j < cnt i) (hm : mup G S S' i j e) (hz : H1.size = H.size) (oq : ∀ q : Nat, q ≠ g_ad G i j → H1[q]? = H[q]?) (he : va_at (g_dC G, g_dI G) vwCl (g_ad G i j, e) H1) : wdM G S' H1 s := by
  obtain ⟨hL, hA, hP, hD, z1, z2⟩ := hw
  obtain ⟨k, hk⟩ := va_pl_get (X := []) (f := mem G S) (hL.1 i j hj).2
  have hk' : (va_pl (g_L G) (mem G S))[k]? = some (g_ad G i j, mem G S (g_ad G i j)) := hk
  have hAi : g_A G (g_ad G i j) := hD.2 k _ hk'
  have e1 : (va_pl (g_L G) (mem G S)).set k (g_ad G i j, e) = va_pl (g_L G) (mem G S') := by
    have := va_pl_set (X := []) (e := e) hD (hL.1 i j hj).2 hk
    rw [List.nil_append, List.nil_append] at this
    rw [this]
    exact mem_up hL hj hm
  have hkp : ∀ a : Nat, a < H.size → ¬ g_A G a → H1[a]? = H[a]? := fun a _ h => oq a (fun q => h (q ▸ hAi))
  refine ⟨hL, by rw [hz]; exact hA, ?_, ?_, vx_Zq.kept z1 hkp, vx_Zq.kept z2 hkp⟩
  · rw [← e1]; exact hP.set hD hk' he oq
  · rw [← e1]; exact hD.set hk'
theorem wdM_at {G : Gm} {S : St} {H : Heap} {s : State} (hw : wdM G S H s) {i j : Nat} (hj : j < cnt i) : va_at (g_dC G, g_dI G) vwCl (g_ad G i j, memK G S i j) H := by
  obtain ⟨hL, hA, hP, hD, z1, z2⟩ := hw
  obtain ⟨k, hk⟩ := va_pl_get (X := []) (f := mem G S) (hL.1 i j hj).2
  have := hP k _ hk
  rw [mem_at hL S hj] at this
  exact this
theorem wdM_A {G : Gm} {S : St} {H : Heap} {s : State} (hw : wdM G S H s) {i j : Nat} (hj : j < cnt i) : g_A G (g_ad G i j) := by
  obtain ⟨hL, hA, hP, hD, z1, z2⟩ := hw
  obtain ⟨k, hk⟩ := va_pl_get (X := []) (f := mem G S) (hL.1 i j hj).2
  exact hD.2 k _ hk
theorem one_P {D : va_G} {q : Nat × va_E} {H : Heap} (h : va_at D vwCl q H) : va_P D vwCl [q] H := fun k x hk => by
  match k, hk with
  | 0, hk => cases hk; exact h
  | k + 1, hk => simp at hk
theorem one_D {A : Nat → Prop} {q : Nat × va_E} (h : A q.1) : va_D A [q] := by
  have key : ∀ (k : Nat) (x : Nat × va_E), ([q] : va_W)[k]? = some x → k = 0 ∧ x = q := fun k x hk => by
    match k, hk with
    | 0, hk => cases hk; exact ⟨rfl, rfl⟩
    | k + 1, hk => simp at hk
  exact ⟨fun i j a b ha hb _ => by rw [(key i a ha).1, (key j b hb).1], fun k x hk => by rw [(key k x hk).2]; exact h⟩
/-- what a walk of a body has at hand -/
def Cx (p : Program) (s : State) (m : MethodId) (meth : Method) (c : Code) (args : Array Value) (cc : ByteArray) (nL : Nat) (ret : Option FieldType) (Ts : List Cond) (own : String) : Prop := p.tables.exec = Jvm.exec ∧ c.code = cc ∧ meth.sig.returnType = ret ∧ c.maxLocals = nL ∧ s.vm.findClass own = some m.cls ∧ (∀ w ∈ Ts, w.before args s = true) ∧ meth.locks = false
abbrev wM (G : Gm) (S : St) (U : State) : Prop := wdM G S U.heap U
def Qi (G : Gm) (r : Int32) (S1 : St) := va_Qi (fun r' (S' : St) => r' = r ∧ S' = S1) (wM G) (g_A G)
def Qf (G : Gm) (r : UInt32) (S1 : St) := va_Qf (fun r' (S' : St) => r' = r ∧ S' = S1) (wM G) (g_A G)
def Qv (G : Gm) (S1 : St) := va_Qv (fun (S' : St) => S' = S1) (wM G) (g_A G)
def Ki (G : Gm) (x : Option String) (r : Int32) (S1 : St) := va_Qi (fun r' (S' : St) => x = none ∧ r' = r ∧ S' = S1) (wM G) (g_A G)
def Kf (G : Gm) (x : Option String) (r : UInt32) (S1 : St) := va_Qf (fun r' (S' : St) => x = none ∧ r' = r ∧ S' = S1) (wM G) (g_A G)
def Kv (G : Gm) (x : Option String) (S1 : St) := va_Qv (fun (S' : St) => x = none ∧ S' = S1) (wM G) (g_A G)
def Kx (G : Gm) (x : Option String) (SX : St) : String → State → State → Prop := vx_X (fun _ : Unit => True) (fun E _ U => x = some E ∧ wM G SX U) (g_A G)
def Pi (l : Launch) (y : MethodName) (ws : List Cond) (rm : Room) (av : List Value) (G : Gm) (S : St) (r : Int32) (S1 : St) : Prop := Met l y ws rm (va_Pc av (wd G S)) (Qi G r S1) rm.cells rm.slots (g_A G)
def Pf (l : Launch) (y : MethodName) (ws : List Cond) (rm : Room) (av : List Value) (G : Gm) (S : St) (r : UInt32) (S1 : St) : Prop := Met l y ws rm (va_Pc av (wd G S)) (Qf G r S1) rm.cells rm.slots (g_A G)
def Pv (l : Launch) (y : MethodName) (ws : List Cond) (rm : Room) (av : List Value) (G : Gm) (S : St) (S1 : St) : Prop := Met l y ws rm (va_Pc av (wd G S)) (Qv G S1) rm.cells rm.slots (g_A G)
def Ti (l : Launch) (y : MethodName) (ws : List Cond) (rm : Room) (av : List Value) (G : Gm) (S : St) (x : Option String) (SX : St) (r : Int32) (S1 : St) : Prop := vx_Met l y ws rm (va_Pc av (wd G S)) (Ki G x r S1) (Kx G x SX) rm.cells rm.slots (g_A G)
def Tf (l : Launch) (y : MethodName) (ws : List Cond) (rm : Room) (av : List Value) (G : Gm) (S : St) (x : Option String) (SX : St) (r : UInt32) (S1 : St) : Prop := vx_Met l y ws rm (va_Pc av (wd G S)) (Kf G x r S1) (Kx G x SX) rm.cells rm.slots (g_A G)
def Tv (l : Launch) (y : MethodName) (ws : List Cond) (rm : Room) (av : List Value) (G : Gm) (S : St) (x : Option String) (SX : St) (S1 : St) : Prop := vx_Met l y ws rm (va_Pc av (wd G S)) (Kv G x S1) (Kx G x SX) rm.cells rm.slots (g_A G)
theorem ent {l : Launch} {y : MethodName} {ws ws' : List Cond} {rm : Room} {av : List Value} {G : Gm} {S : St} {Qc : Array Value → State → Outcome → State → Prop} {cc : ByteArray} {maxL : Nat} {ret : Option FieldType}
    (hy : plainName y.cls = true) (hws : ws = Cond.code y cc maxL ret :: ws') (hlen : (lg_sl av).length ≤ maxL)
    (body : ∀ (p : Program) (e : Env) (s : State) (m : MethodId) (below : List Frame) (meth : Method) (c : Code) (ls : Array Slot), Cx p s m meth c av.toArray cc maxL ret ws y.cls → wdM G S s.heap s → wdT G s → va_S (g_A G) s.heap s.heap [] → lv_has ls maxL (lv_args 0 av) →
      W p l e rm s m av.toArray below meth c s.heap [] 0 0 (MQ below Qc av.toArray s rm.cells rm.slots (g_A G)) (F0 m 0 ls [])) : Met l y ws rm (va_Pc av (wd G S)) Qc rm.cells rm.slots (g_A G) := by
  refine Met.ofW (cc := cc) (maxL := maxL) (ret := ret) hy hws ?_
  intro p e s m args below meth c s₁ B hml hv
  obtain ⟨rfl, hM, hT⟩ := hv
  rw [lg_entry_eq]
  exact body p e s m below meth c _ ⟨B.exec, B.bytes, B.returns, hml, findClass_of_methodNamed B.named, atoms_spec (ws := ws) B.pre, B.notSynchronized⟩ hM hT va_S.rf (lv_entry av hlen)
theorem entX {l : Launch} {y : MethodName} {ws ws' : List Cond} {rm : Room} {av : List Value} {G : Gm} {S : St} {Qc : Array Value → State → Outcome → State → Prop} {XC : String → State → State → Prop} {cc : ByteArray} {maxL : Nat} {ret : Option FieldType}
    (hy : plainName y.cls = true) (hws : ws = Cond.code y cc maxL ret :: ws') (hlen : (lg_sl av).length ≤ maxL)
    (body : ∀ (p : Program) (e : Env) (s : State) (m : MethodId) (below : List Frame) (meth : Method) (c : Code) (ls : Array Slot), Cx p s m meth c av.toArray cc maxL ret ws y.cls → wdM G S s.heap s → wdT G s → va_S (g_A G) s.heap s.heap [] → (∀ x ∈ c.exceptionTable.toList, False) → lv_has ls maxL (lv_args 0 av) →
      W p l e rm s m av.toArray below meth c s.heap [] 0 0 (vx_MQ below Qc XC av.toArray s rm.cells rm.slots (g_A G)) (F0 m 0 ls [])) : vx_Met l y ws rm (va_Pc av (wd G S)) Qc XC rm.cells rm.slots (g_A G) := by
  refine vx_ofW (cc := cc) (maxL := maxL) (ret := ret) hy hws ?_
  intro p e s m args below meth c s₁ B hml hte hv
  obtain ⟨rfl, hM, hT⟩ := hv
  rw [lg_entry_eq]
  exact body p e s m below meth c _ ⟨B.exec, B.bytes, B.returns, hml, findClass_of_methodNamed B.named, atoms_spec (ws := ws) B.pre, B.notSynchronized⟩ hM hT va_S.rf hte (lv_entry av hlen)
