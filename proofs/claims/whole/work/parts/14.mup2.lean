theorem mup2_bx (G : Gm) (S : St) (j : Nat) (f g : Nat → UInt32) : mup G (bxU S (va_up (bxS S) j f)) (bxU S (va_up (bxS S) j g)) 2 j (.inl (g_cy G 0, 6, .inr (.inr (.inl g)))) := by
  refine ⟨(mup_bx G S j g).1, fun i' j' hj h => ((mup_bx G S j g).2 i' j' hj h).trans ((mup_bx G S j f).2 i' j' hj h).symm⟩
theorem mup2_pw (G : Gm) (S : St) (j : Nat) (f g : Nat → Int64) : mup G (pwU S (va_up (pwS S) j f)) (pwU S (va_up (pwS S) j g)) 6 j (.inl (g_cy G 2, 4096, .inr (.inl g))) := by
  refine ⟨(mup_pw G S j g).1, fun i' j' hj h => ((mup_pw G S j g).2 i' j' hj h).trans ((mup_pw G S j f).2 i' j' hj h).symm⟩
theorem mup2_mF (G : Gm) (S : St) (j : Nat) (f g : Nat → UInt32) : mup G (mFU S (va_up (mFS S) j f)) (mFU S (va_up (mFS S) j g)) 10 j (.inl (g_cy G 0, lnF j, .inr (.inr (.inl g)))) := by
  refine ⟨(mup_mF G S j g).1, fun i' j' hj h => ((mup_mF G S j g).2 i' j' hj h).trans ((mup_mF G S j f).2 i' j' hj h).symm⟩
theorem mup2_mI (G : Gm) (S : St) (j : Nat) (f g : Nat → Int32) : mup G (mIU S (va_up (mIS S) j f)) (mIU S (va_up (mIS S) j g)) 11 j (.inl (g_cy G 1, lnI j, .inl g)) := by
  refine ⟨(mup_mI G S j g).1, fun i' j' hj h => ((mup_mI G S j g).2 i' j' hj h).trans ((mup_mI G S j f).2 i' j' hj h).symm⟩
theorem mup2_fb (G : Gm) (S : St) (f g : Nat → Int32) : mup G (fbU S f) (fbU S g) 7 0 (.inl (g_cy G 1, 512, .inl g)) := by
  refine ⟨(mup_fb G S g).1, fun i' j' hj h => ((mup_fb G S g).2 i' j' hj h).trans ((mup_fb G S f).2 i' j' hj h).symm⟩
theorem mup2_ff (G : Gm) (S : St) (f g : Nat → UInt32) : mup G (ffU S f) (ffU S g) 8 0 (.inl (g_cy G 0, 512, .inr (.inr (.inl g)))) := by
  refine ⟨(mup_ff G S g).1, fun i' j' hj h => ((mup_ff G S g).2 i' j' hj h).trans ((mup_ff G S f).2 i' j' hj h).symm⟩
theorem mup2_ou (G : Gm) (S : St) (f g : Nat → Int64) : mup G (ouU S f) (ouU S g) 13 0 (.inl (g_cy G 2, 1, .inr (.inl g))) := by
  refine ⟨(mup_ou G S g).1, fun i' j' hj h => ((mup_ou G S g).2 i' j' hj h).trans ((mup_ou G S f).2 i' j' hj h).symm⟩
theorem mup2_od (G : Gm) (S : St) (f g : Nat → UInt64) : mup G (odU S f) (odU S g) 14 0 (.inl (g_cy G 4, 1, .inr (.inr (.inr (.inl g))))) := by
  refine ⟨(mup_od G S g).1, fun i' j' hj h => ((mup_od G S g).2 i' j' hj h).trans ((mup_od G S f).2 i' j' hj h).symm⟩
theorem mup2_ps (G : Gm) (S : St) (j : Nat) (u v : Int32) : mup G (psU S (va_up (psS S) j u)) (psU S (va_up (psS S) j v)) 5 j (.inr (2, [.ref (g_ad G 6 j), .int v])) := by
  refine ⟨(mup_ps G S j v).1, fun i' j' hj h => ((mup_ps G S j v).2 i' j' hj h).trans ((mup_ps G S j u).2 i' j' hj h).symm⟩
theorem mup2_nf0 (G : Gm) (S : St) (u v : Int32) : mup G (nfU S (va_up (nfS S) 0 u)) (nfU S (va_up (nfS S) 0 v)) 0 0 (.inr (3, [.ref (g_ad G 1 0), .ref (g_ad G 3 0), .int (v), .ref (g_ad G 5 (ipS S).1), .ref (g_ad G 5 (ipS S).2), .ref (g_ad G 5 2), .ref (g_ad G 5 3), .int (nfS S 1), .ref (g_ad G 7 0), .ref (g_ad G 8 0), .int (nfS S 2), .ref (g_ad G 1 1)])) := by
  refine ⟨(mup_nf0 G S v).1, fun i' j' hj h => ((mup_nf0 G S v).2 i' j' hj h).trans ((mup_nf0 G S u).2 i' j' hj h).symm⟩
theorem mup2_mn0 (G : Gm) (S : St) (u v : Int32) : mup G (mnU S (va_up (mnS S) 0 u)) (mnU S (va_up (mnS S) 0 v)) 9 0 (.inr (4, [.int (v), .ref (g_ad G 10 0), .ref (g_ad G 12 0), .ref (g_ad G 12 1), .ref (g_ad G 11 0), .ref (g_ad G 11 1), .ref (g_ad G 10 1), .ref (g_ad G 10 2), .ref (g_ad G 11 2), .ref (g_ad G 11 3), .ref (g_ad G 11 4), .ref (g_ad G 11 5), .int (mnS S 1), .int (mnS S 2), .ref (g_ad G 11 6), .ref (g_ad G 10 3), .ref (g_ad G 10 4)])) := by
  refine ⟨(mup_mn0 G S v).1, fun i' j' hj h => ((mup_mn0 G S v).2 i' j' hj h).trans ((mup_mn0 G S u).2 i' j' hj h).symm⟩
theorem mup2_nf1 (G : Gm) (S : St) (u v : Int32) : mup G (nfU S (va_up (nfS S) 1 u)) (nfU S (va_up (nfS S) 1 v)) 0 0 (.inr (3, [.ref (g_ad G 1 0), .ref (g_ad G 3 0), .int (nfS S 0), .ref (g_ad G 5 (ipS S).1), .ref (g_ad G 5 (ipS S).2), .ref (g_ad G 5 2), .ref (g_ad G 5 3), .int (v), .ref (g_ad G 7 0), .ref (g_ad G 8 0), .int (nfS S 2), .ref (g_ad G 1 1)])) := by
  refine ⟨(mup_nf1 G S v).1, fun i' j' hj h => ((mup_nf1 G S v).2 i' j' hj h).trans ((mup_nf1 G S u).2 i' j' hj h).symm⟩
theorem mup2_mn1 (G : Gm) (S : St) (u v : Int32) : mup G (mnU S (va_up (mnS S) 1 u)) (mnU S (va_up (mnS S) 1 v)) 9 0 (.inr (4, [.int (mnS S 0), .ref (g_ad G 10 0), .ref (g_ad G 12 0), .ref (g_ad G 12 1), .ref (g_ad G 11 0), .ref (g_ad G 11 1), .ref (g_ad G 10 1), .ref (g_ad G 10 2), .ref (g_ad G 11 2), .ref (g_ad G 11 3), .ref (g_ad G 11 4), .ref (g_ad G 11 5), .int (v), .int (mnS S 2), .ref (g_ad G 11 6), .ref (g_ad G 10 3), .ref (g_ad G 10 4)])) := by
  refine ⟨(mup_mn1 G S v).1, fun i' j' hj h => ((mup_mn1 G S v).2 i' j' hj h).trans ((mup_mn1 G S u).2 i' j' hj h).symm⟩
theorem mup2_nf2 (G : Gm) (S : St) (u v : Int32) : mup G (nfU S (va_up (nfS S) 2 u)) (nfU S (va_up (nfS S) 2 v)) 0 0 (.inr (3, [.ref (g_ad G 1 0), .ref (g_ad G 3 0), .int (nfS S 0), .ref (g_ad G 5 (ipS S).1), .ref (g_ad G 5 (ipS S).2), .ref (g_ad G 5 2), .ref (g_ad G 5 3), .int (nfS S 1), .ref (g_ad G 7 0), .ref (g_ad G 8 0), .int (v), .ref (g_ad G 1 1)])) := by
  refine ⟨(mup_nf2 G S v).1, fun i' j' hj h => ((mup_nf2 G S v).2 i' j' hj h).trans ((mup_nf2 G S u).2 i' j' hj h).symm⟩
theorem mup2_mn2 (G : Gm) (S : St) (u v : Int32) : mup G (mnU S (va_up (mnS S) 2 u)) (mnU S (va_up (mnS S) 2 v)) 9 0 (.inr (4, [.int (mnS S 0), .ref (g_ad G 10 0), .ref (g_ad G 12 0), .ref (g_ad G 12 1), .ref (g_ad G 11 0), .ref (g_ad G 11 1), .ref (g_ad G 10 1), .ref (g_ad G 10 2), .ref (g_ad G 11 2), .ref (g_ad G 11 3), .ref (g_ad G 11 4), .ref (g_ad G 11 5), .int (mnS S 1), .int (v), .ref (g_ad G 11 6), .ref (g_ad G 10 3), .ref (g_ad G 10 4)])) := by
  refine ⟨(mup_mn2 G S v).1, fun i' j' hj h => ((mup_mn2 G S v).2 i' j' hj h).trans ((mup_mn2 G S u).2 i' j' hj h).symm⟩
theorem va_S.self {A : Nat → Prop} {H0 H : Heap} {locs : List Loc} (h : va_S A H0 H locs) : va_S A H H locs := ⟨Nat.le_refl _, fun _ _ _ => rfl, h.2.2⟩
theorem va_S.tr {A : Nat → Prop} {H0 H H1 : Heap} {locs locs1 : List Loc} (h : va_S A H0 H locs) (h1 : va_S A H H1 locs1) : va_S A H0 H1 locs1 := ⟨Nat.le_trans h.1 h1.1, fun q a b => (h1.2.1 q (Nat.lt_of_lt_of_le a h.1) b).trans (h.2.1 q a b), h1.2.2⟩
theorem wdM_by {G : Gm} {S S' : St} {H H1 : Heap} {s : State} {locs1 : List Loc} {i j k : Nat} {e : va_E} (hw : wdM G S H s) (hj : j < cnt i) (hm : mup G S S' i j e) (hz : va_S (g_A G) H H1 locs1) (hk : (va_pl (g_L G) (mem G S))[k]? = some (g_ad G i j, mem G S (g_ad G i j))) (hP1 : va_P (g_dC G, g_dI G) vwCl ((va_pl (g_L G) (mem G S)).set k (g_ad G i j, e)) H1) (hD1 : va_D (g_A G) ((va_pl (g_L G) (mem G S)).set k (g_ad G i j, e))) : wdM G S' H1 s := by
  obtain ⟨hL, hA, hP, hD, z1, z2⟩ := hw
  have e1 : (va_pl (g_L G) (mem G S)).set k (g_ad G i j, e) = va_pl (g_L G) (mem G S') := by
    have := va_pl_set (X := []) (e := e) hD (hL.1 i j hj).2 hk
    rw [List.nil_append, List.nil_append] at this
    rw [this]
    exact mem_up hL hj hm
  rw [e1] at hP1 hD1
  exact ⟨hL, fun q hq => hA q (Nat.le_trans hz.1 hq), hP1, hD1, vx_Zq.kept z1 hz.2.1, vx_Zq.kept z2 hz.2.1⟩
section CP
variable {p : Program} {l : Launch} {e : Env} {R : Room} {s : State} {m : MethodId} {args : Array Value} {below : List Frame} {meth : Method} {c : Code} {H H0 : Heap} {locs : List Loc} {cells slots : Nat} {Q : State → Prop}
variable {cc : ByteArray} {pc nL : Nat} {ls : Array Slot} {rest : List Value} {Ts : List Cond} {G : Gm} {S S' : St} {own : String} {index : Nat}
theorem cpF (hx : p.tables.exec = Jvm.exec) (hb : c.code = cc) (hml : c.maxLocals = nL) (hown : s.vm.findClass own = some m.cls) (hts : ∀ w ∈ Ts, w.before args s = true) (w1 : Cond.methodLink own index arraycopyName ∈ Ts) (w2 : Cond.native arraycopyName ∈ Ts) (w3 : Cond.static arraycopyName ∈ Ts) (w4 : Cond.initialized "java/lang/System" ∈ Ts) (hsz : ls.size = nL) (hw : wdM G S H s) (hT : wdT G s) (hS : va_S (g_A G) H0 H locs) (a j : Nat) (ha : a < cnt 2) (hj : j < cnt 2) (hne : a ≠ j)
    (hm : mup G S S' 2 j (.inl (g_cy G 0, 6, .inr (.inr (.inl (va_cpy (bxS S a) (bxS S j) 0 0 6)))))) (hR1 : 1 ≤ R.frames) (hR2 : (rest.map fun v => v.category).sum + 18 ≤ R.locals) (hdg : decode cc pc = .ok (.invokestatic index, 3))
    (kk : ∀ (H1 : Heap) (locs1 : List Loc), wdM G S' H1 s → va_S (g_A G) H0 H1 locs1 → W p l e R s m args below meth c H1 locs1 cells slots Q (F0 m (pc + 3) ls rest)) : W p l e R s m args below meth c H locs cells slots Q (F0 m pc ls (.int (nI 6) :: .int (nI 0) :: .ref (g_ad G 2 j) :: .int (nI 0) :: .ref (g_ad G 2 a) :: rest)) := by
  have hw0 := hw
  obtain ⟨hL, hA, hP, hD, z1, z2⟩ := hw
  obtain ⟨k0, hk0⟩ := va_pl_get (X := []) (f := mem G S) (hL.1 2 a ha).2
  obtain ⟨k1, hk1⟩ := va_pl_get (X := []) (f := mem G S) (hL.1 2 j hj).2
  have hk0' : (va_pl (g_L G) (mem G S))[k0]? = some (g_ad G 2 a, mem G S (g_ad G 2 a)) := hk0
  have hk1' : (va_pl (g_L G) (mem G S))[k1]? = some (g_ad G 2 j, mem G S (g_ad G 2 j)) := hk1
  have q0 : (va_pl (g_L G) (mem G S))[k0]? = some (g_ad G 2 a, .inl (g_cy G 0, 6, .inr (.inr (.inl (bxS S a))))) := by rw [hk0', mem_at hL S ha]; rfl
  have q1 : (va_pl (g_L G) (mem G S))[k1]? = some (g_ad G 2 j, .inl (g_cy G 0, 6, .inr (.inr (.inl (bxS S j))))) := by rw [hk1', mem_at hL S hj]; rfl
  refine va_copyf hx hb (hml.trans hsz.symm) hown (hts _ w1) (hts _ w2) (hts _ w3) (hts _ w4) hT.1 hP hD hS.self k0 k1 0 0 q0 q1 rfl rfl rfl (by decide) (by decide) (by decide) (by decide) (by decide) (fun _ _ => rfl) hR1 hR2 hdg (fun H1 locs1 hP1 hD1 hS1 => ?_)
  exact kk H1 locs1 (wdM_by hw0 hj hm hS1 hk1' hP1 hD1) (hS.tr hS1)
theorem cpJ (hx : p.tables.exec = Jvm.exec) (hb : c.code = cc) (hml : c.maxLocals = nL) (hown : s.vm.findClass own = some m.cls) (hts : ∀ w ∈ Ts, w.before args s = true) (w1 : Cond.methodLink own index arraycopyName ∈ Ts) (w2 : Cond.native arraycopyName ∈ Ts) (w3 : Cond.static arraycopyName ∈ Ts) (w4 : Cond.initialized "java/lang/System" ∈ Ts) (hsz : ls.size = nL) (hw : wdM G S H s) (hT : wdT G s) (hS : va_S (g_A G) H0 H locs) (a j : Nat) (ha : a < cnt 6) (hj : j < cnt 6) (hne : a ≠ j)
    (hm : mup G S S' 6 j (.inl (g_cy G 2, 4096, .inr (.inl (va_cpy (pwS S a) (pwS S j) 0 0 4096))))) (hR1 : 1 ≤ R.frames) (hR2 : (rest.map fun v => v.category).sum + 18 ≤ R.locals) (hdg : decode cc pc = .ok (.invokestatic index, 3))
    (kk : ∀ (H1 : Heap) (locs1 : List Loc), wdM G S' H1 s → va_S (g_A G) H0 H1 locs1 → W p l e R s m args below meth c H1 locs1 cells slots Q (F0 m (pc + 3) ls rest)) : W p l e R s m args below meth c H locs cells slots Q (F0 m pc ls (.int (nI 4096) :: .int (nI 0) :: .ref (g_ad G 6 j) :: .int (nI 0) :: .ref (g_ad G 6 a) :: rest)) := by
  have hw0 := hw
  obtain ⟨hL, hA, hP, hD, z1, z2⟩ := hw
  obtain ⟨k0, hk0⟩ := va_pl_get (X := []) (f := mem G S) (hL.1 6 a ha).2
  obtain ⟨k1, hk1⟩ := va_pl_get (X := []) (f := mem G S) (hL.1 6 j hj).2
  have hk0' : (va_pl (g_L G) (mem G S))[k0]? = some (g_ad G 6 a, mem G S (g_ad G 6 a)) := hk0
  have hk1' : (va_pl (g_L G) (mem G S))[k1]? = some (g_ad G 6 j, mem G S (g_ad G 6 j)) := hk1
  have q0 : (va_pl (g_L G) (mem G S))[k0]? = some (g_ad G 6 a, .inl (g_cy G 2, 4096, .inr (.inl (pwS S a)))) := by rw [hk0', mem_at hL S ha]; rfl
  have q1 : (va_pl (g_L G) (mem G S))[k1]? = some (g_ad G 6 j, .inl (g_cy G 2, 4096, .inr (.inl (pwS S j)))) := by rw [hk1', mem_at hL S hj]; rfl
  refine va_copyl hx hb (hml.trans hsz.symm) hown (hts _ w1) (hts _ w2) (hts _ w3) (hts _ w4) hT.1 hP hD hS.self k0 k1 2 2 q0 q1 rfl rfl rfl (by decide) (by decide) (by decide) (by decide) (by decide) (fun _ _ => rfl) hR1 hR2 hdg (fun H1 locs1 hP1 hD1 hS1 => ?_)
  exact kk H1 locs1 (wdM_by hw0 hj hm hS1 hk1' hP1 hD1) (hS.tr hS1)
end CP
section FR
variable {p : Program} {l : Launch} {e : Env} {R : Room} {s : State} {m : MethodId} {args : Array Value} {below : List Frame} {meth : Method} {c : Code} {H : Heap} {locs : List Loc} {cells slots : Nat} {Q : State → Prop}
variable {cc : ByteArray} {pc : Nat} {ls : Array Slot} {rest : List Value}
theorem fc_lgt (hx : p.tables.exec = Jvm.exec) (hb : c.code = cc) {x y : UInt32} {off : Int} {tgt : Nat} (h1 : decode cc pc = .ok (.fcmp .l, 1)) (h2 : decode cc (pc + 1) = .ok (.ifCond .gt off, 3)) (ht : ((pc + 1 : Nat) : Int) + off = (tgt : Int))
    (kt : fGt x y = true → W p l e R s m args below meth c H locs cells slots Q (F0 m tgt ls rest)) (kf : fGt x y = false → W p l e R s m args below meth c H locs cells slots Q (F0 m (pc + 4) ls rest)) : W p l e R s m args below meth c H locs cells slots Q (F0 m pc ls (.float y :: .float x :: rest)) := by
  refine lv_fcmp hx hb h1 ?_
  refine lv_if_gt (tgt := tgt) hx hb h2 ht (fun h => kt ?_) (fun h => kf ?_)
  all_goals
    unfold fGt
    revert h
    generalize FP.fcmp x y = r
    rcases r with _ | (_ | _ | _) <;> decide
theorem fc_glt (hx : p.tables.exec = Jvm.exec) (hb : c.code = cc) {x y : UInt32} {off : Int} {tgt : Nat} (h1 : decode cc pc = .ok (.fcmp .g, 1)) (h2 : decode cc (pc + 1) = .ok (.ifCond .lt off, 3)) (ht : ((pc + 1 : Nat) : Int) + off = (tgt : Int))
    (kt : fLt x y = true → W p l e R s m args below meth c H locs cells slots Q (F0 m tgt ls rest)) (kf : fLt x y = false → W p l e R s m args below meth c H locs cells slots Q (F0 m (pc + 4) ls rest)) : W p l e R s m args below meth c H locs cells slots Q (F0 m pc ls (.float y :: .float x :: rest)) := by
  refine lv_fcmp hx hb h1 ?_
  refine lv_if_lt (tgt := tgt) hx hb h2 ht (fun h => kt ?_) (fun h => kf ?_)
  all_goals
    unfold fLt
    revert h
    generalize FP.fcmp x y = r
    rcases r with _ | (_ | _ | _) <;> decide
theorem fc_lge (hx : p.tables.exec = Jvm.exec) (hb : c.code = cc) {x y : UInt32} {off : Int} {tgt : Nat} (h1 : decode cc pc = .ok (.fcmp .l, 1)) (h2 : decode cc (pc + 1) = .ok (.ifCond .ge off, 3)) (ht : ((pc + 1 : Nat) : Int) + off = (tgt : Int))
    (kt : fGe x y = true → W p l e R s m args below meth c H locs cells slots Q (F0 m tgt ls rest)) (kf : fGe x y = false → W p l e R s m args below meth c H locs cells slots Q (F0 m (pc + 4) ls rest)) : W p l e R s m args below meth c H locs cells slots Q (F0 m pc ls (.float y :: .float x :: rest)) := by
  refine lv_fcmp hx hb h1 ?_
  refine lv_if_ge (tgt := tgt) hx hb h2 ht (fun h => kt ?_) (fun h => kf ?_)
  all_goals
    unfold fGe fGt fEq
    revert h
    generalize FP.fcmp x y = r
    rcases r with _ | (_ | _ | _) <;> decide
theorem fc_gle (hx : p.tables.exec = Jvm.exec) (hb : c.code = cc) {x y : UInt32} {off : Int} {tgt : Nat} (h1 : decode cc pc = .ok (.fcmp .g, 1)) (h2 : decode cc (pc + 1) = .ok (.ifCond .le off, 3)) (ht : ((pc + 1 : Nat) : Int) + off = (tgt : Int))
    (kt : fLe x y = true → W p l e R s m args below meth c H locs cells slots Q (F0 m tgt ls rest)) (kf : fLe x y = false → W p l e R s m args below meth c H locs cells slots Q (F0 m (pc + 4) ls rest)) : W p l e R s m args below meth c H locs cells slots Q (F0 m pc ls (.float y :: .float x :: rest)) := by
  refine lv_fcmp hx hb h1 ?_
  refine lv_if_le (tgt := tgt) hx hb h2 ht (fun h => kt ?_) (fun h => kf ?_)
  all_goals
    unfold fLe fLt fEq
    revert h
    generalize FP.fcmp x y = r
    rcases r with _ | (_ | _ | _) <;> decide
end FR
