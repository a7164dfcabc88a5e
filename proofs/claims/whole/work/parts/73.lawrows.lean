/-! The law's own helpers: worlds and rows -/
def ncW (U : State) : Prop := va_Nc xS xA U ∧ va_Nc xA xI U
theorem ncW.moved {u U : State} (hvm : u.vm.Alike U.vm) (h : ncW u) : ncW U := ⟨va_Nc.moved hvm h.1, va_Nc.moved hvm h.2⟩
def wdQ (G : Gm) (S : St) (U : State) : Prop := wd G S U ∧ ncW U
theorem wdQ_blind {av : List Value} {G : Gm} {S : St} : FrameBlind (va_Pc av (wdQ G S)) := fun a U g mk q => ⟨q.1, ⟨wdM.moved (u := U) (U := U.calling g mk a) (Vm.Alike.refl U.vm) q.2.1.1, wdT.warm (s := U) (U := U.calling g mk a) q.2.1.2 (State.WarmedH.refl U)⟩, ncW.moved (u := U) (U := U.calling g mk a) (Vm.Alike.refl U.vm) q.2.2⟩
def PiN (l : Launch) (y : MethodName) (ws : List Cond) (rm : Room) (av : List Value) (G : Gm) (S : St) (r : Int32) (S1 : St) : Prop := Met l y ws rm (va_Pc av (wdQ G S)) (Qi G r S1) rm.cells rm.slots (g_A G)
theorem entL {l : Launch} {y : MethodName} {ws ws' : List Cond} {rm : Room} {av : List Value} {G : Gm} {S : St} {Qc : Array Value → State → Outcome → State → Prop} {cc : ByteArray} {maxL : Nat} {ret : Option FieldType} {hh : List (Nat × Nat × Nat × Nat)}
    (hy : plainName y.cls = true) (hws : ws = Cond.codeWith y cc maxL ret hh :: ws') (hlen : (lg_sl av).length ≤ maxL)
    (body : ∀ (p : Program) (e : Env) (s : State) (m : MethodId) (below : List Frame) (meth : Method) (c : Code) (ls : Array Slot), Cx p s m meth c av.toArray cc maxL ret ws y.cls → wdM G S s.heap s → wdT G s → ncW s → va_S (g_A G) s.heap s.heap [] → c.exceptionTable.toList = tableOf hh → lv_has ls maxL (lv_args 0 av) →
      W p l e rm s m av.toArray below meth c s.heap [] 0 0 (MQ below Qc av.toArray s rm.cells rm.slots (g_A G)) (F0 m 0 ls [])) : Met l y ws rm (va_Pc av (wdQ G S)) Qc rm.cells rm.slots (g_A G) := by
  refine va_MetW (cc := cc) (maxL := maxL) (ret := ret) (hh := hh) hy hws ?_
  intro p e s m args below meth c s₁ B hml hv
  obtain ⟨rfl, ⟨hM, hT⟩, hN⟩ := hv
  rw [lg_entry_eq]
  have hts := atoms_spec (ws := ws) B.pre
  exact body p e s m below meth c _ ⟨B.exec, B.bytes, B.returns, hml, findClass_of_methodNamed B.named, hts, B.notSynchronized⟩ hM hT hN va_S.rf (vx_table (x := y) B (hts _ (by rw [hws]; exact List.mem_cons_self))) (lv_entry av hlen)
section LRW
variable {p : Program} {l : Launch} {e : Env} {R : Room} {s : State} {m : MethodId} {args : Array Value} {below : List Frame} {meth : Method} {c : Code} {H H0 : Heap} {locs : List Loc} {cells slots : Nat} {Q : State → Prop}
variable {cc : ByteArray} {pc : Nat} {ls : Array Slot} {rest : List Value} {Ts : List Cond} {G : Gm} {S S' S1 SX : St} {own ref C : String} {index : Nat}
variable {y : MethodName} {bytes : ByteArray} {maxL nL n : Nat} {ret : Option FieldType} {hh : List (Nat × Nat × Nat × Nat)} {ws : List Cond} {rm : Room} {b : Nat} {As st0 : List Value}
theorem cLi {r : Int32} (S0 : CallFix p m c cc nL s args Ts own) (hM : PiN l y ws rm As G S r S1) (cw : vx_CSW R s args own index y bytes maxL ret hh ws rm rm.cells rm.slots n) (hw : wdM G S H s) (hT : wdT G s) (hN : ncW s) (hS : va_S (g_A G) H0 H locs) (hn : As.length = n) (hsz : ls.size = nL) (hst : st0 = As.reverse ++ rest) (hW : (rest.map fun v => v.category).sum ≤ 8) (hdg : decode cc pc = .ok (.invokestatic index, 3)) (hf : cells + rm.cells ≤ R.cells ∧ slots + rm.slots ≤ R.slots)
    (kk : ∀ (H1 : Heap) (locs1 : List Loc), wdM G S1 H1 s → va_S (g_A G) H0 H1 locs1 → W p l e R s m args below meth c H1 locs1 (cells + rm.cells) (slots + rm.slots) Q (F0 m (pc + 3) ls (.int r :: rest))) : W p l e R s m args below meth c H locs cells slots Q (F0 m pc ls st0) := by
  refine va_calli (vx_runSW (As := As) (rest := rest) S0 hM cw ⟨wdQ_blind, fun U hU hW => ⟨rfl, wd_in hw hT hU hW, ncW.moved hW.alike hN⟩⟩ rfl hn hsz hst (lv_room hW) hdg hf) hS (fun q _ h => h) (fun q h => h) (fun r' u t H1 locs1 ht hvm hp hB hz1 hk1 hS1 => ?_)
  obtain ⟨rfl, rfl⟩ := hp
  exact kk H1 locs1 (by have h9 : wdM G _ t.heap t := hB; rw [ht] at h9; exact wdM.moved hvm.symm h9) hS1
theorem sld {L : Nat} {xs : Nat → Int32} (hx : p.tables.exec = Jvm.exec) (hb : c.code = cc) (hX : va_X b L xs s H0) (hbl : b < H0.size) (hbA : ¬ g_A G b) (hS : va_S (g_A G) H0 H locs) (j : Nat) (hj : j < L) (hL : L < 65536) {v : Int32} (hv : xs j = v) (hdg : decode cc pc = .ok (.iaload, 1))
    (kk : W p l e R s m args below meth c H locs cells slots Q (F0 m (pc + 1) ls (.int v :: rest))) : W p l e R s m args below meth c H locs cells slots Q (F0 m pc ls (.int (nI j) :: .ref b :: rest)) := by
  refine va_sld hx hb hX hbl hbA hS (vp_in_nI hj (by omega)) hdg ?_
  rw [nI_clamp (by omega), hv]
  exact kk
end LRW
theorem cd_n {E : String} : cdX E none = nI 0 := rfl
theorem cd_1 {E : String} : cdX E (some E) = nI 1 := if_pos rfl
theorem cd_2 {E1 E2 : String} (h : ¬ E2 = E1) : cdX E1 (some E2) = nI 2 := if_neg h
theorem cd_z {E : String} {x : Option String} (h : cdX E x = 0) : x = none := by
  cases x with
  | none => rfl
  | some e =>
    have h : (if e = E then nI 1 else nI 2) = 0 := h
    split at h
    · exact absurd h (by decide)
    · exact absurd h (by decide)
theorem e_if {b : Bool} {E1 E : String} (h : (if b = true then none else some E1) = some E) : E = E1 := by
  cases b
  · simp at h; exact h.symm
  · simp at h
theorem e_good {x y z : UInt32} {E : String} (h : goodX x y z = some E) : E = xA := e_if h
theorem e_pad {S : St} {E : String} (h : padX S = some E) : E = xA := e_if h
theorem e_mov {x y z : UInt32} {E : String} (h : movX x y z = some E) : E = xA := e_if h
theorem e_there {S : St} {k : Int32} {E : String} (h : thereX S k = some E) : E = xI := e_if h
theorem e_room {S : St} {n : Int32} {E : String} (h : roomX S n = some E) : E = xS := by
  unfold roomX at h
  split at h
  · exact (Option.some.inj h).symm
  · cases h
theorem e_found {S : St} {k : Int32} {E : String} (h : foundX S k = some E) : E = xI := by
  unfold foundX at h
  split at h
  · exact (Option.some.inj h).symm
  · split at h
    · cases h
    · exact (Option.some.inj h).symm
theorem e_wh {k n : Int32} {E : String} (h : whX k n = some E) : E = xI := by
  unfold whX at h
  split at h
  · exact (Option.some.inj h).symm
  · split at h
    · cases h
    · exact (Option.some.inj h).symm
theorem e_or {a b : Option String} {E : String} (h : orX a b = some E) : a = some E ∨ b = some E := by
  cases a with
  | none => exact Or.inr h
  | some e => exact Or.inl h
theorem e_add {S : St} {n : Int32} {E : String} (h : orX (padX S) (roomX S n) = some E) : E = xA ∨ E = xS := (e_or h).elim (fun z => Or.inl (e_pad z)) (fun z => Or.inr (e_room z))
theorem e_arE {S : St} {n : Int32} {x y z : UInt32} {E : String} (h : arE S n x y z = some E) : E = xA := by
  unfold arE at h
  split at h
  · exact (Option.some.inj h).symm
  · split at h
    · exact (Option.some.inj h).symm
    · exact (e_or h).elim e_pad e_mov
theorem e_arX {S : St} {n : Int32} {x y z : UInt32} {E : String} (h : arX S n x y z = some E) : E = xA ∨ E = xS := by
  rcases e_or h with z | z
  · exact Or.inl (e_arE z)
  · split at z
    · exact Or.inr (e_room z)
    · exact Or.inl (Option.some.inj z).symm
theorem e_move {S : St} {k : Int32} {x y z : UInt32} {E : String} (h : orX (thereX S k) (orX (padX S) (movX x y z)) = some E) : E = xI ∨ E = xA := (e_or h).elim (fun z => Or.inl (e_there z)) (fun z => Or.inr ((e_or z).elim e_pad e_mov))
theorem e_shift {fr tt : Int32} {x y z : UInt32} {E : String} (h : shE fr tt x y z = some E) : E = xI ∨ E = xA := by
  rw [shE_sf] at h
  split at h
  · exact Or.inr (e_mov h)
  · exact Or.inl (Option.some.inj h).symm
theorem e_pr {S : St} {a k : Int32} {E : String} (h : prX S a k = some E) : E = xI := by
  unfold prX at h
  split at h
  · exact (Option.some.inj h).symm
  · split at h
    · exact (Option.some.inj h).symm
    · split at h
      · exact (Option.some.inj h).symm
      · split at h
        · cases h
        · exact (Option.some.inj h).symm
theorem e_up {S : St} {E : String} (h : upX S = some E) : E = xS := by
  unfold upX at h
  split at h
  · exact (Option.some.inj h).symm
  · cases h
theorem e_tt {S : St} {a b : Int32} {E : String} (h : orX (thereX S a) (thereX S b) = some E) : E = xI := (e_or h).elim e_there e_there
theorem e_tw {S : St} {a b n : Int32} {E : String} (h : orX (thereX S a) (whX b n) = some E) : E = xI := (e_or h).elim e_there e_wh
theorem C_en {x : Option String} {SX S1 : St} {v : Nat → Int64} : CSt (enS x SX (ouU S1 v)) = CSt (enS x SX S1) := by cases x <;> rfl
theorem C_enD {x : Option String} {SX S1 : St} {v : Nat → UInt64} : CSt (enS x SX (odU S1 v)) = CSt (enS x SX S1) := by cases x <;> rfl
theorem en_n {x : Option String} {SX S1 : St} (h : x = none) : enS x SX S1 = S1 := by rw [h]; rfl
theorem en_s {x : Option String} {SX S1 : St} {E : String} (h : x = some E) : enS x SX S1 = SX := by rw [h]; rfl
/-! what the contracts want of the two states -/
theorem Rel.gb {S T : St} (h : Rel S T) : Gb (mFS T 0) := fun k hk => by rw [← h.1.1 k hk]; exact h.1.2 k hk
theorem Rel.ip4 {S T : St} (h : Rel S T) : (ipS S).1 < 4 ∧ (ipS S).2 < 4 := by rcases h.2.2.2.1.2.2.2 with z | z <;> rw [z] <;> decide
theorem Rel.ip2 {S T : St} (h : Rel S T) : (ipS S).1 < 2 ∧ (ipS S).2 < 2 ∧ (ipS S).1 ≠ (ipS S).2 := by rcases h.2.2.2.1.2.2.2 with z | z <;> rw [z] <;> decide
theorem Rel.fc {S T : St} (h : Rel S T) : ∃ c, c ≤ 512 ∧ nfS S 2 = nI c ∧ mnS T 2 = nI c := by
  obtain ⟨c, h1, h2, h3, -⟩ := h.2.2.2.2.2.1
  exact ⟨c, h1, h2, h3⟩
theorem Rel.tg {S T : St} (h : Rel S T) : Tg T := fun k hk j hj => by
  rw [← (h.2.1 k hk).2.2.1.1 j hj]
  exact (h.2.1 k hk).2.2.2.1 j hj
theorem Rel.tgS {S T : St} (h : Rel S T) : ∀ k, k < 512 → Gb (bxS S (2 * k + 2)) := fun k hk => (h.2.1 k hk).2.2.2.1
theorem Rel.wbS {S T : St} (h : Rel S T) : ∀ k, k < 512 → Wb (bxS S (2 * k + 3)) := fun k hk => (h.2.1 k hk).2.2.2.2
/-- the script's numbers as floats are numbers -/
theorem mg_i2f (v : Int32) : Mg 160 (FP.i2f v) := FP.Core.i2f_mag v
theorem mg_8 : Mg 125 1040187392 := by unfold Mg; decide
theorem v_arg (v : Int32) : vf_n32 (FP.fmul (FP.i2f v) 1040187392) := by
  have := FP.Core.fmul_mag (Ka := 160) (Kb := 125) (mg_i2f v) mg_8 (by decide) (by decide)
  exact Mg.v (K := 160 + 125 - 129 + 3) this (by decide)
def bL (b : Bool) : Int64 := if b then 1 else 0
theorem n64 {x : UInt32} (h : vf_n32 x) : vf_n64 (FP.f2d x) := by
  have h1 : FP.Core.fIsNaN x = false := (FP.Core.notNaN_iff32 x).mpr (v_nn h)
  have h2 : FP.Core.dIsNaN (FP.f2d x) = false := (FP.f2d_nan x).trans h1
  unfold vf_n64
  rw [UInt64.le_iff_toNat_le, FP.Core.mask_toNat]
  exact (FP.Core.ne_nan _).mp ((FP.Core.notNaN_iff _).mp h2)
def dEq (x y : UInt64) : Bool := FP.dcmp x y == some .eq
theorem deq_rf {x : UInt64} (h : vf_n64 x) : dEq x x = true := by
  unfold vf_n64 at h
  rw [UInt64.le_iff_toNat_le, FP.Core.mask_toNat] at h
  have h1 := (FP.Core.ne_nan x).mpr h
  unfold dEq
  rw [show FP.dcmp x x = _ from FP.Core.dcmp_key h1 h1, (FP.Core.compare_eq_iff _ _).mpr rfl]
  rfl
section DCR
variable {p : Program} {l : Launch} {e : Env} {R : Room} {s : State} {m : MethodId} {args : Array Value} {below : List Frame} {meth : Method} {c : Code} {H : Heap} {locs : List Loc} {cells slots : Nat} {Q : State → Prop}
variable {cc : ByteArray} {pc : Nat} {ls : Array Slot} {rest : List Value}
theorem dc_leq (hx : p.tables.exec = Jvm.exec) (hb : c.code = cc) {x y : UInt64} {off : Int} {tgt : Nat} (h1 : decode cc pc = .ok (.dcmp .l, 1)) (h2 : decode cc (pc + 1) = .ok (.ifCond .eq off, 3)) (ht : ((pc + 1 : Nat) : Int) + off = (tgt : Int))
    (kt : dEq x y = true → W p l e R s m args below meth c H locs cells slots Q (F0 m tgt ls rest)) (kf : dEq x y = false → W p l e R s m args below meth c H locs cells slots Q (F0 m (pc + 4) ls rest)) : W p l e R s m args below meth c H locs cells slots Q (F0 m pc ls (.double y :: .double x :: rest)) := by
  refine lv_dcmp hx hb h1 ?_
  refine lv_if_eq (tgt := tgt) hx hb h2 ht (fun h => kt ?_) (fun h => kf ?_)
  all_goals
    unfold dEq
    revert h
    generalize FP.dcmp x y = r
    rcases r with _ | (_ | _ | _) <;> decide
end DCR
