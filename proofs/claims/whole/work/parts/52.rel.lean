/-! What ties the class's state (of S) to the model's (of T) -/
def RPad (S T : St) : Prop := (∀ k, k < 6 → bxS S 0 k = mFS T 0 k) ∧ Gb (bxS S 0)
def RB1 (S T : St) (b : Nat) : Prop := (thS S b = mZS T 0 b ∧ tcS S b = mZS T 1 b) ∧ (grS S b = mIS T 0 b ∧ mkS S b = mIS T 1 b) ∧ ((∀ k, k < 6 → bxS S (2 * b + 2) k = mFS T 1 (6 * b + k)) ∧ ∀ k, k < 6 → bxS S (2 * b + 3) k = mFS T 2 (6 * b + k)) ∧ Gb (bxS S (2 * b + 2)) ∧ Wb (bxS S (2 * b + 3))
def RBod (S T : St) : Prop := ∀ b, b < 512 → RB1 S T b
def RCnt (S : St) : Prop := nfS S 0 = nI (ctB (thS S) 512)
def RSet (S T : St) (i j : Nat) : Prop := (∀ q, q < 262144 → wbt (pwS S i) q = ibt (mIS T j) q) ∧ psS S i = nI (ctB (wbt (pwS S i)) 262144)
def RSets (S T : St) : Prop := RSet S T (ipS S).1 2 ∧ RSet S T 2 4 ∧ RSet S T 3 5 ∧ (ipS S = (0, 1) ∨ ipS S = (1, 0))
def RInv (S : St) : Prop := ∀ a b, a < 512 → b < 512 → (a < b → tcS S a = false → tcS S b = false → wbt (pwS S (ipS S).1) (a * 512 + b) = pwB S a b) ∧ (¬ a < b → wbt (pwS S (ipS S).1) (a * 512 + b) = false)
def RFnd (S T : St) : Prop := ∃ c, c ≤ 512 ∧ nfS S 2 = nI c ∧ mnS T 2 = nI c ∧ ∀ k, k < c → fbS S k = mIS T 6 k ∧ ffS S k = mFS T 3 k ∧ vf_n32 (ffS S k)
def RUpd (S T : St) : Prop := nfS S 1 = mnS T 1
def Rel (S T : St) : Prop := RPad S T ∧ RBod S T ∧ RCnt S ∧ RSets S T ∧ RInv S ∧ RFnd S T ∧ RUpd S T
/-- what a call that has to do with bodies alone leaves -/
def KS (S : St) := (psS S, pwS S, fbS S, ffS S, nfS S 1, nfS S 2, ipS S)
def KM (T : St) := (mIS T 2, mIS T 4, mIS T 5, mIS T 6, mFS T 3, mnS T 1, mnS T 2)
def KB (T : St) := (mZS T 0, mZS T 1, mIS T 0, mIS T 1, mFS T 1, mFS T 2)
def KC (S : St) := (grS S, mkS S, thS S, tcS S)
theorem nn_g {f : Nat → UInt32} (h : Gb f) {k : Nat} (hk : k < 6) : nn (f k) := (h k hk).nn (by decide)
theorem nn_w {f : Nat → UInt32} (h : Wb f) {k : Nat} (hk : k < 6) : nn (f k) := (h k hk).nn (by decide)
theorem bx_pb {f g : Nat → UInt32} (h : Gb f) (e : ∀ k, k < 6 → f k = g k) : bxF f = pbF g := by
  unfold bxF pbF
  rw [← e 0 (by decide), ← e 1 (by decide), ← e 2 (by decide), ← e 3 (by decide), ← e 4 (by decide), ← e 5 (by decide)]
  rw [fle_n (nn_g h (k := 0) (by decide)) (nn_g h (k := 3) (by decide)), fle_n (nn_g h (k := 1) (by decide)) (nn_g h (k := 4) (by decide)), fle_n (nn_g h (k := 2) (by decide)) (nn_g h (k := 5) (by decide)), Bool.and_assoc]
theorem li_mo {f g f' w : Nat → UInt32} {b : Nat} (h : Gb f) (hg : Wb g) (e : ∀ k, k < 6 → f k = f' k) (eg : ∀ k, k < 6 → g k = w (6 * b + k)) : liF f g = moF f' w b := by
  unfold liF moF
  rw [show 6 * b + 3 + 0 = 6 * b + 3 from rfl, show 6 * b + 3 + 1 = 6 * b + 4 from rfl, show 6 * b + 3 + 2 = 6 * b + 5 from rfl]
  rw [← e 0 (by decide), ← e 1 (by decide), ← e 2 (by decide), ← e 3 (by decide), ← e 4 (by decide), ← e 5 (by decide), ← eg 0 (by decide), ← eg 1 (by decide), ← eg 2 (by decide), ← eg 3 (by decide), ← eg 4 (by decide), ← eg 5 (by decide)]
  rw [fge_n (nn_g h (k := 0) (by decide)) (nn_w hg (k := 0) (by decide)), fge_n (nn_g h (k := 1) (by decide)) (nn_w hg (k := 1) (by decide)), fge_n (nn_g h (k := 2) (by decide)) (nn_w hg (k := 2) (by decide))]
  rw [fle_n (nn_g h (k := 3) (by decide)) (nn_w hg (k := 3) (by decide)), fle_n (nn_g h (k := 4) (by decide)) (nn_w hg (k := 4) (by decide)), fle_n (nn_g h (k := 5) (by decide)) (nn_w hg (k := 5) (by decide))]
  simp only [Bool.and_assoc]
theorem ov_M {f g w : Nat → UInt32} {a b : Nat} (hf : Wb f) (hg : Wb g) (ef : ∀ k, k < 6 → f k = w (6 * a + k)) (eg : ∀ k, k < 6 → g k = w (6 * b + k)) : ovF f g = ovM w a b := by
  unfold ovF ovM
  rw [show 6 * b + 3 + 0 = 6 * b + 3 from rfl, show 6 * b + 3 + 1 = 6 * b + 4 from rfl, show 6 * b + 3 + 2 = 6 * b + 5 from rfl, show 6 * a + 3 + 0 = 6 * a + 3 from rfl, show 6 * a + 3 + 1 = 6 * a + 4 from rfl, show 6 * a + 3 + 2 = 6 * a + 5 from rfl]
  rw [← ef 0 (by decide), ← ef 1 (by decide), ← ef 2 (by decide), ← ef 3 (by decide), ← ef 4 (by decide), ← ef 5 (by decide), ← eg 0 (by decide), ← eg 1 (by decide), ← eg 2 (by decide), ← eg 3 (by decide), ← eg 4 (by decide), ← eg 5 (by decide)]
  rw [fle_n (nn_w hf (k := 0) (by decide)) (nn_w hg (k := 3) (by decide)), fle_n (nn_w hf (k := 1) (by decide)) (nn_w hg (k := 4) (by decide)), fle_n (nn_w hf (k := 2) (by decide)) (nn_w hg (k := 5) (by decide))]
  rw [fle_n (nn_w hg (k := 0) (by decide)) (nn_w hf (k := 3) (by decide)), fle_n (nn_w hg (k := 1) (by decide)) (nn_w hf (k := 4) (by decide)), fle_n (nn_w hg (k := 2) (by decide)) (nn_w hf (k := 5) (by decide))]
  simp only [Bool.and_assoc]
theorem ov_cong {f g f' g' : Nat → UInt32} (ef : ∀ k, k < 6 → f' k = f k) (eg : ∀ k, k < 6 → g' k = g k) : ovF f' g' = ovF f g := by
  unfold ovF
  rw [ef 0 (by decide), ef 1 (by decide), ef 2 (by decide), ef 3 (by decide), ef 4 (by decide), ef 5 (by decide), eg 0 (by decide), eg 1 (by decide), eg 2 (by decide), eg 3 (by decide), eg 4 (by decide), eg 5 (by decide)]
theorem ov_comm (f g : Nat → UInt32) : ovF f g = ovF g f := by
  unfold ovF
  rw [Bool.and_comm (!fGt (f 0) (g 3)), Bool.and_comm (!fGt (f 1) (g 4)), Bool.and_comm (!fGt (f 2) (g 5))]
theorem pw_comm (S : St) (a b : Nat) : pwB S a b = pwB S b a := by
  unfold pwB
  rw [ov_comm (bxS S (2 * a + 3))]
  cases thS S a <;> cases thS S b <;> cases (grS S a &&& mkS S b == 0) <;> cases (grS S b &&& mkS S a == 0) <;> simp
/-- a body that is untouched now was so before, and is as it was -/
def Unt (S S' : St) (b : Nat) : Prop := tcS S' b = false → tcS S b = false ∧ thS S' b = thS S b ∧ grS S' b = grS S b ∧ mkS S' b = mkS S b ∧ ∀ k, k < 6 → bxS S' (2 * b + 3) k = bxS S (2 * b + 3) k
theorem Unt.rf (S : St) (b : Nat) : Unt S S b := fun h => ⟨h, rfl, rfl, rfl, fun _ _ => rfl⟩
theorem Unt.trans {S S' S2 : St} {b : Nat} (h : Unt S S' b) (h2 : Unt S' S2 b) : Unt S S2 b := fun q => by
  obtain ⟨a1, a2, a3, a4, a5⟩ := h2 q
  obtain ⟨b1, b2, b3, b4, b5⟩ := h a1
  exact ⟨b1, a2.trans b2, a3.trans b3, a4.trans b4, fun k hk => (a5 k hk).trans (b5 k hk)⟩
theorem pw_unt {S S' : St} {a b : Nat} (ha : Unt S S' a) (hb : Unt S S' b) (ta : tcS S' a = false) (tb : tcS S' b = false) : pwB S' a b = pwB S a b := by
  obtain ⟨a1, a2, a3, a4, a5⟩ := ha ta
  obtain ⟨b1, b2, b3, b4, b5⟩ := hb tb
  unfold pwB
  rw [a2, a3, a4, b2, b3, b4, ov_cong a5 b5]
theorem Rel.bodyP {S S' T T' : St} (h : Rel S T) (eS : KS S' = KS S) (hp : RPad S' T') (eT : KM T' = KM T) (hB : RBod S' T') (hU : ∀ b, b < 512 → Unt S S' b) (hc : RCnt S') : Rel S' T' := by
  obtain ⟨h1, h2, h3, h4, h5, h6, h7⟩ := h
  simp only [KS, Prod.mk.injEq] at eS
  simp only [KM, Prod.mk.injEq] at eT
  obtain ⟨s1, s2, s3, s4, s5, s6, s7⟩ := eS
  obtain ⟨t1, t2, t3, t4, t6, t7, t8⟩ := eT
  refine ⟨hp, hB, hc, ?_, ?_, ?_, ?_⟩
  · unfold RSets RSet
    rw [s1, s2, s7, t1, t2, t3]
    exact h4
  · intro a b ha hb
    rw [s2, s7]
    refine ⟨fun hab ta tb => ?_, (h5 a b ha hb).2⟩
    rw [pw_unt (hU a ha) (hU b hb) ta tb]
    exact (h5 a b ha hb).1 hab (hU a ha ta).1 (hU b hb tb).1
  · unfold RFnd
    rw [s3, s4, s6, t4, t6, t8]
    exact h6
  · unfold RUpd
    rw [s5, t7]
    exact h7
theorem RPad.tr {S S' T T' : St} (h : RPad S T) (e0 : bxS S' 0 = bxS S 0) (eP : mFS T' 0 = mFS T 0) : RPad S' T' := by
  unfold RPad
  rw [e0, eP]
  exact h
theorem Rel.body {S S' T T' : St} (h : Rel S T) (eS : KS S' = KS S) (e0 : bxS S' 0 = bxS S 0) (eP : mFS T' 0 = mFS T 0) (eT : KM T' = KM T) (hB : RBod S' T') (hU : ∀ b, b < 512 → Unt S S' b) (hc : RCnt S') : Rel S' T' := h.bodyP eS (h.1.tr e0 eP) eT hB hU hc
theorem RBod.tr {S S' T T' : St} (h : RBod S T) (ec : KC S' = KC S) (eb : ∀ j, 2 ≤ j → ∀ k, k < 6 → bxS S' j k = bxS S j k) (eB : KB T' = KB T) : RBod S' T' := by
  intro b hb
  obtain ⟨⟨a1, a2⟩, ⟨a3, a4⟩, ⟨a5, a6⟩, a7, a8⟩ := h b hb
  simp only [KC, Prod.mk.injEq] at ec
  simp only [KB, Prod.mk.injEq] at eB
  obtain ⟨c1, c2, c3, c4⟩ := ec
  obtain ⟨b1, b2, b3, b4, b5, b6⟩ := eB
  unfold RB1
  rw [c1, c2, c3, c4, b1, b2, b3, b4, b5, b6]
  refine ⟨⟨a1, a2⟩, ⟨a3, a4⟩, ⟨fun k hk => (eb _ (by omega) k hk).trans (a5 k hk), fun k hk => (eb _ (by omega) k hk).trans (a6 k hk)⟩, fun k hk => ?_, fun k hk => ?_⟩
  · rw [eb _ (by omega) k hk]; exact a7 k hk
  · rw [eb _ (by omega) k hk]; exact a8 k hk
theorem Unt.kc {S S' : St} {b : Nat} (ec : KC S' = KC S) (eb : ∀ j, 2 ≤ j → ∀ k, k < 6 → bxS S' j k = bxS S j k) : Unt S S' b := fun q => by
  simp only [KC, Prod.mk.injEq] at ec
  obtain ⟨c1, c2, c3, c4⟩ := ec
  rw [c4] at q
  exact ⟨q, by rw [c3], by rw [c1], by rw [c2], fun k hk => eb _ (by omega) k hk⟩
theorem RCnt.tr {S S' : St} (h : RCnt S) (e : nfS S' 0 = nfS S 0) (ec : KC S' = KC S) : RCnt S' := by
  simp only [KC, Prod.mk.injEq] at ec
  unfold RCnt
  rw [e, ec.2.2.1]
  exact h
theorem Rel.tr {S S' T T' : St} (h : Rel S T) (eS : KS S' = KS S) (e0 : nfS S' 0 = nfS S 0) (ec : KC S' = KC S) (eb0 : bxS S' 0 = bxS S 0) (eb : ∀ j, 2 ≤ j → ∀ k, k < 6 → bxS S' j k = bxS S j k) (eP : mFS T' 0 = mFS T 0) (eT : KM T' = KM T) (eB : KB T' = KB T) : Rel S' T' :=
  h.body eS eb0 eP eT (h.2.1.tr ec eb eB) (fun _ _ => Unt.kc ec eb) (h.2.2.1.tr e0 ec)
theorem Rel.trT {S T T' : St} (h : Rel S T) (eP : mFS T' 0 = mFS T 0) (eT : KM T' = KM T) (eB : KB T' = KB T) : Rel S T' := h.tr rfl rfl rfl rfl (fun _ _ _ _ => rfl) eP eT eB
theorem Rel.gs {S T : St} (h : Rel S T) (a b : Bool) : Rel S (gsS T a b) := h.trT rfl rfl rfl
/-- the class's cells of a state; the model's -/
def CSt (S : St) := (bxS S, grS S, mkS S, thS S, tcS S, psS S, pwS S, fbS S, ffS S, nfS S, ipS S)
def MSt (S : St) := (mFS S, mIS S, mZS S, mnS S)
theorem Rel.cm {S S' T T' : St} (h : Rel S T) (eC : CSt S' = CSt S) (eM : MSt T' = MSt T) : Rel S' T' := by
  simp only [CSt, Prod.mk.injEq] at eC
  simp only [MSt, Prod.mk.injEq] at eM
  obtain ⟨c1, c2, c3, c4, c5, c6, c7, c8, c9, c10, c11⟩ := eC
  obtain ⟨m1, m2, m3, m4⟩ := eM
  refine h.tr ?_ (by rw [c10]) ?_ (by rw [c1]) (fun j _ k _ => by rw [c1]) (by rw [m1]) ?_ ?_
  · unfold KS; rw [c6, c7, c8, c9, c10, c11]
  · unfold KC; rw [c2, c3, c4, c5]
  · unfold KM; rw [m1, m2, m4]
  · unfold KB; rw [m1, m2, m3]
/-! The first state -/
theorem wbt0 (q : Nat) : wbt (fun _ => 0) q = false := by
  unfold wbt tb
  rw [show ((0 : Int64).toBitVec) = 0#64 from rfl]
  simp
theorem ibt0 (q : Nat) : ibt (fun _ => 0) q = false := ib_zero _
theorem Rel0 : Rel S0 S0 := by
  have hz : ∀ K, 0 < K → Mg K 0 := fun K hK => by
    unfold Mg
    rw [show (0 : UInt32).toNat % 2 ^ 31 = 0 from rfl]
    omega
  have hs : ∀ i j, RSet S0 S0 i j := fun i j => by
    refine ⟨fun q _ => ?_, ?_⟩
    · show wbt (fun _ => 0) q = ibt (fun _ => 0) q
      rw [wbt0, ibt0]
    · show (0 : Int32) = nI (ctB (wbt (fun _ => 0)) 262144)
      rw [ct_zero (fun k _ => wbt0 k)]
      rfl
  refine ⟨⟨fun _ _ => rfl, fun k _ => hz _ (by decide)⟩, fun b _ => ⟨⟨rfl, rfl⟩, ⟨rfl, rfl⟩, ⟨fun _ _ => rfl, fun _ _ => rfl⟩, fun k _ => hz _ (by decide), fun k _ => hz _ (by decide)⟩, ?_, ⟨hs _ _, hs _ _, hs _ _, Or.inl rfl⟩, fun a b _ _ => ⟨fun _ _ _ => ?_, fun _ => ?_⟩, ⟨0, by decide, rfl, rfl, fun k hk => absurd hk (Nat.not_lt_zero _)⟩, rfl⟩
  · show (0 : Int32) = nI (ctB (fun _ => false) 512)
    rw [ct_zero (fun k _ => rfl)]
    rfl
  · show wbt (fun _ => 0) _ = pwB S0 a b
    rw [wbt0]
    rfl
  · show wbt (fun _ => 0) _ = false
    exact wbt0 _
