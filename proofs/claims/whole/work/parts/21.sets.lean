/-! Sets of pairs, Body; the first rows are out of kit/laws/BITS -/
theorem ts_bit {w : Int64} {s : UInt64} {j : Nat} (hj : j < 64) (hs : s.toNat = j) : ((w.toUInt64 >>> s).toInt64 &&& 1) = 0 ↔ w.toBitVec.getLsbD j = false := by
  have e : (w.toUInt64 >>> s).toInt64.toBitVec = w.toBitVec >>> j := by
    apply BitVec.eq_of_toNat_eq
    show (w.toUInt64 >>> s).toNat = _
    rw [UInt64.toNat_shiftRight, hs, Nat.mod_eq_of_lt hj, BitVec.toNat_ushiftRight]
    rfl
  rw [← Int64.toBitVec_inj, Int64.toBitVec_and, e]
  show w.toBitVec >>> j &&& 1#64 = 0#64 ↔ _
  constructor
  · intro h
    have t := congrArg (fun x => x.getLsbD 0) h
    simpa using t
  · intro h
    apply BitVec.eq_of_getLsbD_eq
    intro i hi
    cases i with
    | zero => simp [h]
    | succ i => simp
theorem wb_tb (n : Nat) : (lN n).toBitVec = BitVec.ofNat 64 n := rfl
theorem wb_inj {a b : Int64} (h : a.toBitVec = b.toBitVec) : a = b := Int64.toBitVec_inj.mp h
theorem wb_tn {n : Nat} (h : n < 2 ^ 64) : (lN n).toBitVec.toNat = n := by rw [wb_tb, BitVec.toNat_ofNat, Nat.mod_eq_of_lt h]
theorem wb_of (x : Int64) : ∃ n, n < 2 ^ 64 ∧ x = lN n := ⟨x.toBitVec.toNat, x.toBitVec.isLt, wb_inj (by rw [wb_tb]; simp)⟩
theorem wb_of32 (x : Int32) : ∃ n, n < 2 ^ 32 ∧ x = nI n := ⟨x.toBitVec.toNat, x.toBitVec.isLt, Int32.toBitVec_inj.mp (by show _ = BitVec.ofNat 32 _; simp)⟩
theorem wb_c : ∀ k, k < 64 → ((nI k).toInt64 &&& 63) = lN k := by decide +kernel
theorem wb_cu : ∀ k, k < 64 → ((nI k).toInt64.toUInt64 &&& Int64.toUInt64 63) = UInt64.ofNat k := by decide +kernel
theorem wb_sm : ∀ k, k < 64 → (BitVec.ofNat 64 k).smod 64 = BitVec.ofNat 64 k := by decide +kernel
section LR
variable {p : Program} {l : Launch} {e : Env} {R : Room} {s : State} {m : MethodId} {args : Array Value} {below : List Frame} {meth : Method} {c : Code} {H : Heap} {locs : List Loc} {cells slots : Nat} {Q : State → Prop}
variable {cc : ByteArray} {pc : Nat} {ls : Array Slot} {rest : List Value}
theorem lg_cmp0 (x y : Int64) : lg_cmp x y = 0 ↔ x = y := by
  unfold lg_cmp
  constructor
  · intro h
    by_cases h1 : y < x
    · simp [h1] at h
    · by_cases h2 : x = y
      · exact h2
      · simp [h1, h2] at h
  · rintro rfl
    simp
theorem lc_eq (hx : p.tables.exec = Jvm.exec) (hb : c.code = cc) {x y : Int64} {off : Int} {tgt : Nat} (h1 : decode cc pc = .ok (.lcmp, 1)) (h2 : decode cc (pc + 1) = .ok (.ifCond .eq off, 3)) (ht : ((pc + 1 : Nat) : Int) + off = (tgt : Int))
    (kt : x = y → W p l e R s m args below meth c H locs cells slots Q (F0 m tgt ls rest)) (kf : ¬ x = y → W p l e R s m args below meth c H locs cells slots Q (F0 m (pc + 4) ls rest)) : W p l e R s m args below meth c H locs cells slots Q (F0 m pc ls (.long y :: .long x :: rest)) := by
  refine W.lcmp hx hb h1 ?_
  exact lv_if_eq (tgt := tgt) hx hb h2 ht (fun h => kt ((lg_cmp0 x y).mp h)) (fun h => kf (fun q => h ((lg_cmp0 x y).mpr q)))
end LR
/-- a bit of a word -/
def tb (w : Int64) (b : Nat) : Bool := w.toBitVec.getLsbD b
theorem tb_0 (w : Int64) {b : Nat} (hb : b < 64) : ((w.toUInt64 >>> ((nI b).toInt64.toUInt64 &&& Int64.toUInt64 63)).toInt64 &&& 1) = 0 ↔ tb w b = false := by
  refine ts_bit hb ?_
  rw [wb_cu b hb]
  simp [UInt64.toNat_ofNat']
  omega
theorem tb_1 (w : Int64) {b : Nat} (hb : b < 64) : ¬ ((w.toUInt64 >>> ((nI b).toInt64.toUInt64 &&& Int64.toUInt64 63)).toInt64 &&& 1) = 0 ↔ tb w b = true := by
  rw [tb_0 w hb]; cases tb w b <;> simp
/-- the word with the bit turned -/
def tflip (w : Int64) (b : Nat) : Int64 := w ^^^ ((1 : Int64) <<< ((nI b).toInt64 &&& 63))
def hdS (S : St) (i q : Nat) : Bool := tb (pwS S i (q / 64)) (q % 64)
def putS (S : St) (i q : Nat) (b : Bool) : St := if hdS S i q = b then S else psU (pwU S (va_up (pwS S) i (va_up (pwS S i) (q / 64) (tflip (pwS S i (q / 64)) (q % 64))))) (va_up (psS S) i (psS S i + (if b = true then nI 1 else (-1))))
def cpsS (S : St) (i a : Nat) : St := psU (pwU S (va_up (pwS S) i (va_cpy (pwS S a) (pwS S i) 0 0 4096))) (va_up (psS S) i (psS S a))
def bcF (x0 : Int64) : Int32 :=
  let u := fun (x : Int64) (k : Int32) => (x.toUInt64 >>> (k.toInt64.toUInt64 &&& Int64.toUInt64 63)).toInt64
  let x1 := x0 - (u x0 (nI 1) &&& 6148914691236517205)
  let x2 := (x1 &&& 3689348814741910323) + (u x1 (nI 2) &&& 3689348814741910323)
  let x3 := (x2 + u x2 (nI 4)) &&& 1085102592571150095
  let x4 := x3 + u x3 (nI 8)
  let x5 := x4 + u x4 (nI 16)
  let x6 := x5 + u x5 (nI 32)
  x6.toInt32 &&& nI 127
def dfW (a b : Nat → Int64) (k : Nat) : Int64 := a k &&& (b k ^^^ (-1))
def dfR (a b o : Nat → Int64) (n : Nat) : Nat → Int64 := fun k => if k < n then dfW a b k else o k
def dfC (a b : Nat → Int64) : Nat → Int32
  | 0 => nI 0
  | n + 1 => dfC a b n + bcF (dfW a b n)
def dfS (S : St) (i a b n : Nat) : St := psU (pwU S (va_up (pwS S) i (dfR (pwS S a) (pwS S b) (pwS S i) n))) (va_up (psS S) i (dfC (pwS S a) (pwS S b) n))
/-- bit k of a word, counted from the lowest set one: n bits are left, from b on -/
def baF (w : Int64) : Nat → Nat → Int32 → Int32
  | 0, _, _ => nI 0
  | n + 1, b, left => if tb w b = true then (if left = 0 then nI b else baF w n (b + 1) (left + (-1))) else baF w n (b + 1) left
def caF (f : Nat → Int64) : Nat → Nat → Int32 → Int32
  | 0, _, _ => -1
  | n + 1, i, left => if left < bcF (f i) then nI (i * 64) + baF (f i) 64 0 left else caF f n (i + 1) (left - bcF (f i))
def lvS (S : St) (k : Nat) : St := tcU (thU S (va_up (thS S) k false)) (va_up (tcS S) k false)
def flS (S : St) (k : Nat) (g m : Int32) : St := tcU (mkU (grU S (va_up (grS S) k g)) (va_up (mkS S) k m)) (va_up (tcS S) k true)
def cpF6 (S : St) (j a : Nat) : St := boxU S j (va_cpy (bxS S a) (bxS S j) 0 0 6)
def wdS (S : St) (j : Nat) (dx dy dz : UInt32) : St := boxU S j (wdF (bxS S j) dx dy dz)
def apS (S : St) (k a : Nat) (g m : Int32) : St := flS (wdS (cpF6 (cpF6 (thU S (va_up (thS S) k true)) (2 * k + 2) a) (2 * k + 3) a) (2 * k + 3) FP.fconst0 FP.fconst0 FP.fconst0) k g m
def mtB (S : St) (k a : Nat) : Bool := liF (bxS (cpF6 S (2 * k + 2) a) (2 * k + 2)) (bxS (cpF6 S (2 * k + 2) a) (2 * k + 3))
def mtW (S : St) (k a : Nat) (dx dy dz : UInt32) : St := wdS (cpF6 (cpF6 S (2 * k + 2) a) (2 * k + 3) a) (2 * k + 3) dx dy dz
def mtS (S : St) (k a : Nat) (dx dy dz : UInt32) : St := if mtB S k a = true then cpF6 S (2 * k + 2) a else tcU (mtW S k a dx dy dz) (va_up (tcS S) k true)
def pwB (S : St) (k o : Nat) : Bool := thS S k && (thS S o && (!(grS S k &&& mkS S o == 0) && (!(grS S o &&& mkS S k == 0) && ovF (bxS S (2 * k + 3)) (bxS S (2 * o + 3)))))
set_option maxRecDepth 100000 in
set_option maxHeartbeats 1000000 in
theorem c_bitCount (l : Launch) (G : Gm) (S : St) (x : Int64) : Pi l yJ13_bitCount_95d88 wsJ13_bitCount_95d88 ({ frames := 0, cells := 0, slots := 0, locals := 0 } : Room) [.long x] G S (bcF x) S := by
  refine ent (cc := cJ13_bitCount_95d88) (maxL := 2) (ret := (some .int)) (by decide) rfl (Nat.le_of_ble_eq_true rfl) ?_
  intro p e s m below meth c ls C hw hT hS hl
  obtain ⟨hx, hb, hr, hml, hown, hts, hlk⟩ := C
  have hl : lv_has ls 2 [(0, .long x)] := hl
  refine lv_lload_n hx hb dJ13_bitCount_95d88_0 rfl (lv_at hl 0 rfl) ?_
  refine lv_lload_n hx hb dJ13_bitCount_95d88_1 rfl (lv_at hl 0 rfl) ?_
  refine lv_iconst (v := nI 1) hx hb dJ13_bitCount_95d88_2 (by decide) ?_
  refine lv_lushr hx hb dJ13_bitCount_95d88_3 rfl ?_
  refine lv_ldc2 (v := 6148914691236517205) hx hb hown (hts _ (List.mem_of_getElem? (i := 1) rfl)) dJ13_bitCount_95d88_4 ?_
  refine lv_land hx hb dJ13_bitCount_95d88_7 ?_
  refine lv_lsub hx hb dJ13_bitCount_95d88_8 ?_
  refine lv_lstore_n (lv' := [(0, .long (x - (((x.toUInt64 >>> ((nI 1).toInt64.toUInt64 &&& Int64.toUInt64 63)).toInt64) &&& 6148914691236517205)))]) hx hb dJ13_bitCount_95d88_9 rfl hl (by decide) rfl (fun ls hl => ?_)
  refine lv_lload_n hx hb dJ13_bitCount_95d88_10 rfl (lv_at hl 0 rfl) ?_
  refine lv_ldc2 (v := 3689348814741910323) hx hb hown (hts _ (List.mem_of_getElem? (i := 2) rfl)) dJ13_bitCount_95d88_11 ?_
  refine lv_land hx hb dJ13_bitCount_95d88_14 ?_
  refine lv_lload_n hx hb dJ13_bitCount_95d88_15 rfl (lv_at hl 0 rfl) ?_
  refine lv_iconst (v := nI 2) hx hb dJ13_bitCount_95d88_16 (by decide) ?_
  refine lv_lushr hx hb dJ13_bitCount_95d88_17 rfl ?_
  refine lv_ldc2 (v := 3689348814741910323) hx hb hown (hts _ (List.mem_of_getElem? (i := 2) rfl)) dJ13_bitCount_95d88_18 ?_
  refine lv_land hx hb dJ13_bitCount_95d88_21 ?_
  refine lv_ladd hx hb dJ13_bitCount_95d88_22 ?_
  refine lv_lstore_n (lv' := [(0, .long (((x - (((x.toUInt64 >>> ((nI 1).toInt64.toUInt64 &&& Int64.toUInt64 63)).toInt64) &&& 6148914691236517205)) &&& 3689348814741910323) + ((((x - (((x.toUInt64 >>> ((nI 1).toInt64.toUInt64 &&& Int64.toUInt64 63)).toInt64) &&& 6148914691236517205)).toUInt64 >>> ((nI 2).toInt64.toUInt64 &&& Int64.toUInt64 63)).toInt64) &&& 3689348814741910323)))]) hx hb dJ13_bitCount_95d88_23 rfl hl (by decide) rfl (fun ls hl => ?_)
  refine lv_lload_n hx hb dJ13_bitCount_95d88_24 rfl (lv_at hl 0 rfl) ?_
  refine lv_lload_n hx hb dJ13_bitCount_95d88_25 rfl (lv_at hl 0 rfl) ?_
  refine lv_iconst (v := nI 4) hx hb dJ13_bitCount_95d88_26 (by decide) ?_
  refine lv_lushr hx hb dJ13_bitCount_95d88_27 rfl ?_
  refine lv_ladd hx hb dJ13_bitCount_95d88_28 ?_
  refine lv_ldc2 (v := 1085102592571150095) hx hb hown (hts _ (List.mem_of_getElem? (i := 3) rfl)) dJ13_bitCount_95d88_29 ?_
  refine lv_land hx hb dJ13_bitCount_95d88_32 ?_
  refine lv_lstore_n (lv' := [(0, .long (((((x - (((x.toUInt64 >>> ((nI 1).toInt64.toUInt64 &&& Int64.toUInt64 63)).toInt64) &&& 6148914691236517205)) &&& 3689348814741910323) + ((((x - (((x.toUInt64 >>> ((nI 1).toInt64.toUInt64 &&& Int64.toUInt64 63)).toInt64) &&& 6148914691236517205)).toUInt64 >>> ((nI 2).toInt64.toUInt64 &&& Int64.toUInt64 63)).toInt64) &&& 3689348814741910323)) + (((((x - (((x.toUInt64 >>> ((nI 1).toInt64.toUInt64 &&& Int64.toUInt64 63)).toInt64) &&& 6148914691236517205)) &&& 3689348814741910323) + ((((x - (((x.toUInt64 >>> ((nI 1).toInt64.toUInt64 &&& Int64.toUInt64 63)).toInt64) &&& 6148914691236517205)).toUInt64 >>> ((nI 2).toInt64.toUInt64 &&& Int64.toUInt64 63)).toInt64) &&& 3689348814741910323)).toUInt64 >>> ((nI 4).toInt64.toUInt64 &&& Int64.toUInt64 63)).toInt64)) &&& 1085102592571150095))]) hx hb dJ13_bitCount_95d88_33 rfl hl (by decide) rfl (fun ls hl => ?_)
  refine lv_lload_n hx hb dJ13_bitCount_95d88_34 rfl (lv_at hl 0 rfl) ?_
  refine lv_lload_n hx hb dJ13_bitCount_95d88_35 rfl (lv_at hl 0 rfl) ?_
  refine lv_bipush (v := nI 8) hx hb dJ13_bitCount_95d88_36 (by decide) ?_
  refine lv_lushr hx hb dJ13_bitCount_95d88_38 rfl ?_
  refine lv_ladd hx hb dJ13_bitCount_95d88_39 ?_
  refine lv_lstore_n (lv' := [(0, .long ((((((x - (((x.toUInt64 >>> ((nI 1).toInt64.toUInt64 &&& Int64.toUInt64 63)).toInt64) &&& 6148914691236517205)) &&& 3689348814741910323) + ((((x - (((x.toUInt64 >>> ((nI 1).toInt64.toUInt64 &&& Int64.toUInt64 63)).toInt64) &&& 6148914691236517205)).toUInt64 >>> ((nI 2).toInt64.toUInt64 &&& Int64.toUInt64 63)).toInt64) &&& 3689348814741910323)) + (((((x - (((x.toUInt64 >>> ((nI 1).toInt64.toUInt64 &&& Int64.toUInt64 63)).toInt64) &&& 6148914691236517205)) &&& 3689348814741910323) + ((((x - (((x.toUInt64 >>> ((nI 1).toInt64.toUInt64 &&& Int64.toUInt64 63)).toInt64) &&& 6148914691236517205)).toUInt64 >>> ((nI 2).toInt64.toUInt64 &&& Int64.toUInt64 63)).toInt64) &&& 3689348814741910323)).toUInt64 >>> ((nI 4).toInt64.toUInt64 &&& Int64.toUInt64 63)).toInt64)) &&& 1085102592571150095) + (((((((x - (((x.toUInt64 >>> ((nI 1).toInt64.toUInt64 &&& Int64.toUInt64 63)).toInt64) &&& 6148914691236517205)) &&& 3689348814741910323) + ((((x - (((x.toUInt64 >>> ((nI 1).toInt64.toUInt64 &&& Int64.toUInt64 63)).toInt64) &&& 6148914691236517205)).toUInt64 >>> ((nI 2).toInt64.toUInt64 &&& Int64.toUInt64 63)).toInt64) &&& 3689348814741910323)) + (((((x - (((x.toUInt64 >>> ((nI 1).toInt64.toUInt64 &&& Int64.toUInt64 63)).toInt64) &&& 6148914691236517205)) &&& 3689348814741910323) + ((((x - (((x.toUInt64 >>> ((nI 1).toInt64.toUInt64 &&& Int64.toUInt64 63)).toInt64) &&& 6148914691236517205)).toUInt64 >>> ((nI 2).toInt64.toUInt64 &&& Int64.toUInt64 63)).toInt64) &&& 3689348814741910323)).toUInt64 >>> ((nI 4).toInt64.toUInt64 &&& Int64.toUInt64 63)).toInt64)) &&& 1085102592571150095).toUInt64 >>> ((nI 8).toInt64.toUInt64 &&& Int64.toUInt64 63)).toInt64)))]) hx hb dJ13_bitCount_95d88_40 rfl hl (by decide) rfl (fun ls hl => ?_)
  refine lv_lload_n hx hb dJ13_bitCount_95d88_41 rfl (lv_at hl 0 rfl) ?_
  refine lv_lload_n hx hb dJ13_bitCount_95d88_42 rfl (lv_at hl 0 rfl) ?_
  refine lv_bipush (v := nI 16) hx hb dJ13_bitCount_95d88_43 (by decide) ?_
  refine lv_lushr hx hb dJ13_bitCount_95d88_45 rfl ?_
  refine lv_ladd hx hb dJ13_bitCount_95d88_46 ?_
  refine lv_lstore_n (lv' := [(0, .long (((((((x - (((x.toUInt64 >>> ((nI 1).toInt64.toUInt64 &&& Int64.toUInt64 63)).toInt64) &&& 6148914691236517205)) &&& 3689348814741910323) + ((((x - (((x.toUInt64 >>> ((nI 1).toInt64.toUInt64 &&& Int64.toUInt64 63)).toInt64) &&& 6148914691236517205)).toUInt64 >>> ((nI 2).toInt64.toUInt64 &&& Int64.toUInt64 63)).toInt64) &&& 3689348814741910323)) + (((((x - (((x.toUInt64 >>> ((nI 1).toInt64.toUInt64 &&& Int64.toUInt64 63)).toInt64) &&& 6148914691236517205)) &&& 3689348814741910323) + ((((x - (((x.toUInt64 >>> ((nI 1).toInt64.toUInt64 &&& Int64.toUInt64 63)).toInt64) &&& 6148914691236517205)).toUInt64 >>> ((nI 2).toInt64.toUInt64 &&& Int64.toUInt64 63)).toInt64) &&& 3689348814741910323)).toUInt64 >>> ((nI 4).toInt64.toUInt64 &&& Int64.toUInt64 63)).toInt64)) &&& 1085102592571150095) + (((((((x - (((x.toUInt64 >>> ((nI 1).toInt64.toUInt64 &&& Int64.toUInt64 63)).toInt64) &&& 6148914691236517205)) &&& 3689348814741910323) + ((((x - (((x.toUInt64 >>> ((nI 1).toInt64.toUInt64 &&& Int64.toUInt64 63)).toInt64) &&& 6148914691236517205)).toUInt64 >>> ((nI 2).toInt64.toUInt64 &&& Int64.toUInt64 63)).toInt64) &&& 3689348814741910323)) + (((((x - (((x.toUInt64 >>> ((nI 1).toInt64.toUInt64 &&& Int64.toUInt64 63)).toInt64) &&& 6148914691236517205)) &&& 3689348814741910323) + ((((x - (((x.toUInt64 >>> ((nI 1).toInt64.toUInt64 &&& Int64.toUInt64 63)).toInt64) &&& 6148914691236517205)).toUInt64 >>> ((nI 2).toInt64.toUInt64 &&& Int64.toUInt64 63)).toInt64) &&& 3689348814741910323)).toUInt64 >>> ((nI 4).toInt64.toUInt64 &&& Int64.toUInt64 63)).toInt64)) &&& 1085102592571150095).toUInt64 >>> ((nI 8).toInt64.toUInt64 &&& Int64.toUInt64 63)).toInt64)) + ((((((((x - (((x.toUInt64 >>> ((nI 1).toInt64.toUInt64 &&& Int64.toUInt64 63)).toInt64) &&& 6148914691236517205)) &&& 3689348814741910323) + ((((x - (((x.toUInt64 >>> ((nI 1).toInt64.toUInt64 &&& Int64.toUInt64 63)).toInt64) &&& 6148914691236517205)).toUInt64 >>> ((nI 2).toInt64.toUInt64 &&& Int64.toUInt64 63)).toInt64) &&& 3689348814741910323)) + (((((x - (((x.toUInt64 >>> ((nI 1).toInt64.toUInt64 &&& Int64.toUInt64 63)).toInt64) &&& 6148914691236517205)) &&& 3689348814741910323) + ((((x - (((x.toUInt64 >>> ((nI 1).toInt64.toUInt64 &&& Int64.toUInt64 63)).toInt64) &&& 6148914691236517205)).toUInt64 >>> ((nI 2).toInt64.toUInt64 &&& Int64.toUInt64 63)).toInt64) &&& 3689348814741910323)).toUInt64 >>> ((nI 4).toInt64.toUInt64 &&& Int64.toUInt64 63)).toInt64)) &&& 1085102592571150095) + (((((((x - (((x.toUInt64 >>> ((nI 1).toInt64.toUInt64 &&& Int64.toUInt64 63)).toInt64) &&& 6148914691236517205)) &&& 3689348814741910323) + ((((x - (((x.toUInt64 >>> ((nI 1).toInt64.toUInt64 &&& Int64.toUInt64 63)).toInt64) &&& 6148914691236517205)).toUInt64 >>> ((nI 2).toInt64.toUInt64 &&& Int64.toUInt64 63)).toInt64) &&& 3689348814741910323)) + (((((x - (((x.toUInt64 >>> ((nI 1).toInt64.toUInt64 &&& Int64.toUInt64 63)).toInt64) &&& 6148914691236517205)) &&& 3689348814741910323) + ((((x - (((x.toUInt64 >>> ((nI 1).toInt64.toUInt64 &&& Int64.toUInt64 63)).toInt64) &&& 6148914691236517205)).toUInt64 >>> ((nI 2).toInt64.toUInt64 &&& Int64.toUInt64 63)).toInt64) &&& 3689348814741910323)).toUInt64 >>> ((nI 4).toInt64.toUInt64 &&& Int64.toUInt64 63)).toInt64)) &&& 1085102592571150095).toUInt64 >>> ((nI 8).toInt64.toUInt64 &&& Int64.toUInt64 63)).toInt64)).toUInt64 >>> ((nI 16).toInt64.toUInt64 &&& Int64.toUInt64 63)).toInt64)))]) hx hb dJ13_bitCount_95d88_47 rfl hl (by decide) rfl (fun ls hl => ?_)
  refine lv_lload_n hx hb dJ13_bitCount_95d88_48 rfl (lv_at hl 0 rfl) ?_
  refine lv_lload_n hx hb dJ13_bitCount_95d88_49 rfl (lv_at hl 0 rfl) ?_
  refine lv_bipush (v := nI 32) hx hb dJ13_bitCount_95d88_50 (by decide) ?_
  refine lv_lushr hx hb dJ13_bitCount_95d88_52 rfl ?_
  refine lv_ladd hx hb dJ13_bitCount_95d88_53 ?_
  refine lv_lstore_n (lv' := [(0, .long ((((((((x - (((x.toUInt64 >>> ((nI 1).toInt64.toUInt64 &&& Int64.toUInt64 63)).toInt64) &&& 6148914691236517205)) &&& 3689348814741910323) + ((((x - (((x.toUInt64 >>> ((nI 1).toInt64.toUInt64 &&& Int64.toUInt64 63)).toInt64) &&& 6148914691236517205)).toUInt64 >>> ((nI 2).toInt64.toUInt64 &&& Int64.toUInt64 63)).toInt64) &&& 3689348814741910323)) + (((((x - (((x.toUInt64 >>> ((nI 1).toInt64.toUInt64 &&& Int64.toUInt64 63)).toInt64) &&& 6148914691236517205)) &&& 3689348814741910323) + ((((x - (((x.toUInt64 >>> ((nI 1).toInt64.toUInt64 &&& Int64.toUInt64 63)).toInt64) &&& 6148914691236517205)).toUInt64 >>> ((nI 2).toInt64.toUInt64 &&& Int64.toUInt64 63)).toInt64) &&& 3689348814741910323)).toUInt64 >>> ((nI 4).toInt64.toUInt64 &&& Int64.toUInt64 63)).toInt64)) &&& 1085102592571150095) + (((((((x - (((x.toUInt64 >>> ((nI 1).toInt64.toUInt64 &&& Int64.toUInt64 63)).toInt64) &&& 6148914691236517205)) &&& 3689348814741910323) + ((((x - (((x.toUInt64 >>> ((nI 1).toInt64.toUInt64 &&& Int64.toUInt64 63)).toInt64) &&& 6148914691236517205)).toUInt64 >>> ((nI 2).toInt64.toUInt64 &&& Int64.toUInt64 63)).toInt64) &&& 3689348814741910323)) + (((((x - (((x.toUInt64 >>> ((nI 1).toInt64.toUInt64 &&& Int64.toUInt64 63)).toInt64) &&& 6148914691236517205)) &&& 3689348814741910323) + ((((x - (((x.toUInt64 >>> ((nI 1).toInt64.toUInt64 &&& Int64.toUInt64 63)).toInt64) &&& 6148914691236517205)).toUInt64 >>> ((nI 2).toInt64.toUInt64 &&& Int64.toUInt64 63)).toInt64) &&& 3689348814741910323)).toUInt64 >>> ((nI 4).toInt64.toUInt64 &&& Int64.toUInt64 63)).toInt64)) &&& 1085102592571150095).toUInt64 >>> ((nI 8).toInt64.toUInt64 &&& Int64.toUInt64 63)).toInt64)) + ((((((((x - (((x.toUInt64 >>> ((nI 1).toInt64.toUInt64 &&& Int64.toUInt64 63)).toInt64) &&& 6148914691236517205)) &&& 3689348814741910323) + ((((x - (((x.toUInt64 >>> ((nI 1).toInt64.toUInt64 &&& Int64.toUInt64 63)).toInt64) &&& 6148914691236517205)).toUInt64 >>> ((nI 2).toInt64.toUInt64 &&& Int64.toUInt64 63)).toInt64) &&& 3689348814741910323)) + (((((x - (((x.toUInt64 >>> ((nI 1).toInt64.toUInt64 &&& Int64.toUInt64 63)).toInt64) &&& 6148914691236517205)) &&& 3689348814741910323) + ((((x - (((x.toUInt64 >>> ((nI 1).toInt64.toUInt64 &&& Int64.toUInt64 63)).toInt64) &&& 6148914691236517205)).toUInt64 >>> ((nI 2).toInt64.toUInt64 &&& Int64.toUInt64 63)).toInt64) &&& 3689348814741910323)).toUInt64 >>> ((nI 4).toInt64.toUInt64 &&& Int64.toUInt64 63)).toInt64)) &&& 1085102592571150095) + (((((((x - (((x.toUInt64 >>> ((nI 1).toInt64.toUInt64 &&& Int64.toUInt64 63)).toInt64) &&& 6148914691236517205)) &&& 3689348814741910323) + ((((x - (((x.toUInt64 >>> ((nI 1).toInt64.toUInt64 &&& Int64.toUInt64 63)).toInt64) &&& 6148914691236517205)).toUInt64 >>> ((nI 2).toInt64.toUInt64 &&& Int64.toUInt64 63)).toInt64) &&& 3689348814741910323)) + (((((x - (((x.toUInt64 >>> ((nI 1).toInt64.toUInt64 &&& Int64.toUInt64 63)).toInt64) &&& 6148914691236517205)) &&& 3689348814741910323) + ((((x - (((x.toUInt64 >>> ((nI 1).toInt64.toUInt64 &&& Int64.toUInt64 63)).toInt64) &&& 6148914691236517205)).toUInt64 >>> ((nI 2).toInt64.toUInt64 &&& Int64.toUInt64 63)).toInt64) &&& 3689348814741910323)).toUInt64 >>> ((nI 4).toInt64.toUInt64 &&& Int64.toUInt64 63)).toInt64)) &&& 1085102592571150095).toUInt64 >>> ((nI 8).toInt64.toUInt64 &&& Int64.toUInt64 63)).toInt64)).toUInt64 >>> ((nI 16).toInt64.toUInt64 &&& Int64.toUInt64 63)).toInt64)) + (((((((((x - (((x.toUInt64 >>> ((nI 1).toInt64.toUInt64 &&& Int64.toUInt64 63)).toInt64) &&& 6148914691236517205)) &&& 3689348814741910323) + ((((x - (((x.toUInt64 >>> ((nI 1).toInt64.toUInt64 &&& Int64.toUInt64 63)).toInt64) &&& 6148914691236517205)).toUInt64 >>> ((nI 2).toInt64.toUInt64 &&& Int64.toUInt64 63)).toInt64) &&& 3689348814741910323)) + (((((x - (((x.toUInt64 >>> ((nI 1).toInt64.toUInt64 &&& Int64.toUInt64 63)).toInt64) &&& 6148914691236517205)) &&& 3689348814741910323) + ((((x - (((x.toUInt64 >>> ((nI 1).toInt64.toUInt64 &&& Int64.toUInt64 63)).toInt64) &&& 6148914691236517205)).toUInt64 >>> ((nI 2).toInt64.toUInt64 &&& Int64.toUInt64 63)).toInt64) &&& 3689348814741910323)).toUInt64 >>> ((nI 4).toInt64.toUInt64 &&& Int64.toUInt64 63)).toInt64)) &&& 1085102592571150095) + (((((((x - (((x.toUInt64 >>> ((nI 1).toInt64.toUInt64 &&& Int64.toUInt64 63)).toInt64) &&& 6148914691236517205)) &&& 3689348814741910323) + ((((x - (((x.toUInt64 >>> ((nI 1).toInt64.toUInt64 &&& Int64.toUInt64 63)).toInt64) &&& 6148914691236517205)).toUInt64 >>> ((nI 2).toInt64.toUInt64 &&& Int64.toUInt64 63)).toInt64) &&& 3689348814741910323)) + (((((x - (((x.toUInt64 >>> ((nI 1).toInt64.toUInt64 &&& Int64.toUInt64 63)).toInt64) &&& 6148914691236517205)) &&& 3689348814741910323) + ((((x - (((x.toUInt64 >>> ((nI 1).toInt64.toUInt64 &&& Int64.toUInt64 63)).toInt64) &&& 6148914691236517205)).toUInt64 >>> ((nI 2).toInt64.toUInt64 &&& Int64.toUInt64 63)).toInt64) &&& 3689348814741910323)).toUInt64 >>> ((nI 4).toInt64.toUInt64 &&& Int64.toUInt64 63)).toInt64)) &&& 1085102592571150095).toUInt64 >>> ((nI 8).toInt64.toUInt64 &&& Int64.toUInt64 63)).toInt64)) + ((((((((x - (((x.toUInt64 >>> ((nI 1).toInt64.toUInt64 &&& Int64.toUInt64 63)).toInt64) &&& 6148914691236517205)) &&& 3689348814741910323) + ((((x - (((x.toUInt64 >>> ((nI 1).toInt64.toUInt64 &&& Int64.toUInt64 63)).toInt64) &&& 6148914691236517205)).toUInt64 >>> ((nI 2).toInt64.toUInt64 &&& Int64.toUInt64 63)).toInt64) &&& 3689348814741910323)) + (((((x - (((x.toUInt64 >>> ((nI 1).toInt64.toUInt64 &&& Int64.toUInt64 63)).toInt64) &&& 6148914691236517205)) &&& 3689348814741910323) + ((((x - (((x.toUInt64 >>> ((nI 1).toInt64.toUInt64 &&& Int64.toUInt64 63)).toInt64) &&& 6148914691236517205)).toUInt64 >>> ((nI 2).toInt64.toUInt64 &&& Int64.toUInt64 63)).toInt64) &&& 3689348814741910323)).toUInt64 >>> ((nI 4).toInt64.toUInt64 &&& Int64.toUInt64 63)).toInt64)) &&& 1085102592571150095) + (((((((x - (((x.toUInt64 >>> ((nI 1).toInt64.toUInt64 &&& Int64.toUInt64 63)).toInt64) &&& 6148914691236517205)) &&& 3689348814741910323) + ((((x - (((x.toUInt64 >>> ((nI 1).toInt64.toUInt64 &&& Int64.toUInt64 63)).toInt64) &&& 6148914691236517205)).toUInt64 >>> ((nI 2).toInt64.toUInt64 &&& Int64.toUInt64 63)).toInt64) &&& 3689348814741910323)) + (((((x - (((x.toUInt64 >>> ((nI 1).toInt64.toUInt64 &&& Int64.toUInt64 63)).toInt64) &&& 6148914691236517205)) &&& 3689348814741910323) + ((((x - (((x.toUInt64 >>> ((nI 1).toInt64.toUInt64 &&& Int64.toUInt64 63)).toInt64) &&& 6148914691236517205)).toUInt64 >>> ((nI 2).toInt64.toUInt64 &&& Int64.toUInt64 63)).toInt64) &&& 3689348814741910323)).toUInt64 >>> ((nI 4).toInt64.toUInt64 &&& Int64.toUInt64 63)).toInt64)) &&& 1085102592571150095).toUInt64 >>> ((nI 8).toInt64.toUInt64 &&& Int64.toUInt64 63)).toInt64)).toUInt64 >>> ((nI 16).toInt64.toUInt64 &&& Int64.toUInt64 63)).toInt64)).toUInt64 >>> ((nI 32).toInt64.toUInt64 &&& Int64.toUInt64 63)).toInt64)))]) hx hb dJ13_bitCount_95d88_54 rfl hl (by decide) rfl (fun ls hl => ?_)
  refine lv_lload_n hx hb dJ13_bitCount_95d88_55 rfl (lv_at hl 0 rfl) ?_
  refine lv_l2i hx hb dJ13_bitCount_95d88_56 rfl ?_
  refine lv_bipush (v := nI 127) hx hb dJ13_bitCount_95d88_57 (by decide) ?_
  refine lv_iand hx hb dJ13_bitCount_95d88_59 ?_
  exact ri hx hb hlk hr hw hS rfl (vp_nar_int _) (Nat.le_of_ble_eq_true rfl) (Nat.le_of_ble_eq_true rfl) dJ13_bitCount_95d88_60
set_option maxRecDepth 100000 in
set_option maxHeartbeats 1000000 in
theorem c_holds (l : Launch) (G : Gm) (S : St) (i : Nat) (hi : i < 4) (q : Nat) (hq : q < 262144) : Pi l yX2_holds wsX2_holds ({ frames := 0, cells := 0, slots := 0, locals := 0 } : Room) [.ref (g_ad G 5 i), .int (nI q)] G S (bI (hdS S i q)) S := by
  refine ent (cc := cX2_holds) (maxL := 2) (ret := (some .boolean)) (by decide) rfl (Nat.le_of_ble_eq_true rfl) ?_
  intro p e s m below meth c ls C hw hT hS hl
  obtain ⟨hx, hb, hr, hml, hown, hts, hlk⟩ := C
  have hl : lv_has ls 2 [(0, .ref (g_ad G 5 i)), (1, .int (nI q))] := hl
  refine lv_aload_n hx hb dX2_holds_0 rfl (lv_at hl 0 rfl) ?_
  refine gf hx hb hown hts hw hT 5 i (show i < 4 by omega) (ci := 2) rfl rfl (fun _ h => List.mem_cons_of_mem _ (List.mem_append_right _ h)) 0 (by decide) (List.mem_of_getElem? (i := 1) rfl) (v := .ref (g_ad G 6 i)) rfl dX2_holds_1 ?_
  refine lv_iload_n hx hb dX2_holds_4 rfl (lv_at hl 1 rfl) ?_
  refine lv_bipush (v := nI 64) hx hb dX2_holds_5 (by decide) ?_
  refine lv_idiv hx hb dX2_holds_7 (by decide) ?_
  refine top_i (y := nI (q / 64)) (pk_div (by omega) (by decide) (by decide)) ?_
  refine all hx hb hw hT 6 i (show i < 4 by omega) (f := pwS S i) rfl (q / 64) (show q / 64 < 4096 by omega) (by decide) dX2_holds_8 ?_
  refine lv_iload_n hx hb dX2_holds_9 rfl (lv_at hl 1 rfl) ?_
  refine lv_bipush (v := nI 64) hx hb dX2_holds_10 (by decide) ?_
  refine lv_irem hx hb dX2_holds_12 (by decide) ?_
  refine top_i (y := nI (q % 64)) (pk_rem (by omega) (by decide) (by decide)) ?_
  refine lv_lushr hx hb dX2_holds_13 rfl ?_
  refine lv_lconst (v := 1) hx hb dX2_holds_14 (by decide) ?_
  refine lv_land hx hb dX2_holds_15 ?_
  refine lv_lconst (v := 0) hx hb dX2_holds_16 (by decide) ?_
  refine lc_eq (x := (((pwS S i (q / 64)).toUInt64 >>> ((nI (q % 64)).toInt64.toUInt64 &&& Int64.toUInt64 63)).toInt64) &&& 1) (y := 0) (tgt := 25) hx hb dX2_holds_17 dX2_holds_18 (by decide) (fun h1 => ?_) (fun h1 => ?_)
  · skip
    have h1 := (tb_0 (pwS S i (q / 64)) (by omega)).mp h1
    refine lv_iconst (v := nI 0) hx hb dX2_holds_25 (by decide) ?_
    refine top_i (y := bI false) (by decide) ?_
    exact ri hx hb hlk hr hw hS (congrArg bI (by simp [hdS, h1])) (bI_nar _) (Nat.le_of_ble_eq_true rfl) (Nat.le_of_ble_eq_true rfl) dX2_holds_26
  · skip
    have h1 := (tb_1 (pwS S i (q / 64)) (by omega)).mp h1
    refine lv_iconst (v := nI 1) hx hb dX2_holds_21 (by decide) ?_
    refine lv_goto (tgt := 26) hx hb dX2_holds_22 (by decide) ?_
    refine top_i (y := bI true) (by decide) ?_
    exact ri hx hb hlk hr hw hS (congrArg bI (by simp [hdS, h1])) (bI_nar _) (Nat.le_of_ble_eq_true rfl) (Nat.le_of_ble_eq_true rfl) dX2_holds_26
set_option maxRecDepth 100000 in
set_option maxHeartbeats 1000000 in
theorem c_put (l : Launch) (G : Gm) (S : St) (i : Nat) (hi : i < 4) (q : Nat) (hq : q < 262144) (b : Bool) : Pv l yX2_put wsX2_put ({ frames := 1, cells := 0, slots := 0, locals := 21 } : Room) [.ref (g_ad G 5 i), .int (nI q), .int (bI b)] G S (putS S i q b) := by
  refine ent (cc := cX2_put) (maxL := 3) (ret := none) (by decide) rfl (Nat.le_of_ble_eq_true rfl) ?_
  intro p e s m below meth c ls C hw hT hS hl
  obtain ⟨hx, hb, hr, hml, hown, hts, hlk⟩ := C
  have hl : lv_has ls 3 [(0, .ref (g_ad G 5 i)), (1, .int (nI q)), (2, .int (bI b))] := hl
  refine lv_aload_n hx hb dX2_put_0 rfl (lv_at hl 0 rfl) ?_
  refine lv_iload_n hx hb dX2_put_1 rfl (lv_at hl 1 rfl) ?_
  refine cVi ⟨hx, hb, hml, hown, hts⟩ (c_holds l G S i (show i < 4 by omega) q (by omega)) (cwV 1 hts gX2_put_X2_holds rfl rfl rfl (by decide +kernel) ⟨(Nat.le_of_ble_eq_true rfl), (Nat.le_of_ble_eq_true rfl)⟩) hw hT hS (rcv hw hT 5 i (show i < 4 by omega) rfl rfl) (As := [.int (nI q)]) (rest := []) rfl hl.1 rfl (Nat.le_of_ble_eq_true rfl) dX2_put_2 ⟨(Nat.le_of_ble_eq_true rfl), (Nat.le_of_ble_eq_true rfl)⟩ (fun H locs hw hS => ?_)
  refine lv_iload_n hx hb dX2_put_5 rfl (lv_at hl 2 rfl) ?_
  refine lv_icmp_eq (tgt := 45) hx hb dX2_put_6 (by decide) (fun h1 => ?_) (fun h1 => ?_)
  · skip
    have h1 := bI_inj h1
    exact rv hx hb hlk hr (by unfold putS; rw [if_pos h1]; exact hw) hS  (Nat.le_of_ble_eq_true rfl) (Nat.le_of_ble_eq_true rfl) dX2_put_45
  · skip
    have h1 : ¬ hdS S i q = b := fun z => h1 (by rw [z])
    refine lv_aload_n hx hb dX2_put_9 rfl (lv_at hl 0 rfl) ?_
    refine gf hx hb hown hts hw hT 5 i (show i < 4 by omega) (ci := 2) rfl rfl (fun _ h => List.mem_cons_of_mem _ (List.mem_append_right _ h)) 0 (by decide) (List.mem_of_getElem? (i := 1) rfl) (v := .ref (g_ad G 6 i)) rfl dX2_put_10 ?_
    refine lv_iload_n hx hb dX2_put_13 rfl (lv_at hl 1 rfl) ?_
    refine lv_bipush (v := nI 64) hx hb dX2_put_14 (by decide) ?_
    refine lv_idiv hx hb dX2_put_16 (by decide) ?_
    refine top_i (y := nI (q / 64)) (pk_div (by omega) (by decide) (by decide)) ?_
    refine lv_dup2_11 hx hb dX2_put_17 rfl rfl ?_
    refine all hx hb hw hT 6 i (show i < 4 by omega) (f := pwS S i) rfl (q / 64) (show q / 64 < 4096 by omega) (by decide) dX2_put_18 ?_
    refine lv_lconst (v := 1) hx hb dX2_put_19 (by decide) ?_
    refine lv_iload_n hx hb dX2_put_20 rfl (lv_at hl 1 rfl) ?_
    refine lv_bipush (v := nI 64) hx hb dX2_put_21 (by decide) ?_
    refine lv_irem hx hb dX2_put_23 (by decide) ?_
    refine top_i (y := nI (q % 64)) (pk_rem (by omega) (by decide) (by decide)) ?_
    refine lv_lshl hx hb dX2_put_24 rfl ?_
    refine lv_lxor hx hb dX2_put_25 ?_
    refine als (S' := (pwU S (va_up (pwS S) i (va_up (pwS S i) (q / 64) ((pwS S i (q / 64)) ^^^ (1 <<< ((nI (q % 64)).toInt64 &&& 63))))))) hx hb hw hT hS 6 i (show i < 4 by omega) (f := pwS S i) rfl (q / 64) (show q / 64 < 4096 by omega) (by decide) (mup_pw G S i (va_up (pwS S i) (q / 64) ((pwS S i (q / 64)) ^^^ (1 <<< ((nI (q % 64)).toInt64 &&& 63))))) dX2_put_26 (fun H locs hw hS => ?_)
    refine lv_aload_n hx hb dX2_put_27 rfl (lv_at hl 0 rfl) ?_
    refine lv_dup hx hb dX2_put_28 rfl ?_
    refine gf hx hb hown hts hw hT 5 i (show i < 4 by omega) (ci := 2) rfl rfl (fun _ h => List.mem_cons_of_mem _ (List.mem_append_right _ h)) 1 (by decide) (List.mem_of_getElem? (i := 2) rfl) (v := .int (psS S i)) rfl dX2_put_29 ?_
    refine lv_iload_n hx hb dX2_put_32 rfl (lv_at hl 2 rfl) ?_
    refine lv_if_eq (tgt := 40) hx hb dX2_put_33 (by decide) (fun h2 => ?_) (fun h2 => ?_)
    · skip
      have h2 := bI_0.mp h2
      refine lv_iconst (v := (-1)) hx hb dX2_put_40 (by decide) ?_
      refine lv_iadd hx hb dX2_put_41 ?_
      refine pf (S' := (psU (pwU S (va_up (pwS S) i (va_up (pwS S i) (q / 64) ((pwS S i (q / 64)) ^^^ (1 <<< ((nI (q % 64)).toInt64 &&& 63)))))) (va_up (psS (pwU S (va_up (pwS S) i (va_up (pwS S i) (q / 64) ((pwS S i (q / 64)) ^^^ (1 <<< ((nI (q % 64)).toInt64 &&& 63))))))) i ((psS S i) + ((-1)))))) hx hb hown hts hw hT hS 5 i (show i < 4 by omega) (ci := 2) rfl rfl (fun _ h => List.mem_cons_of_mem _ (List.mem_append_right _ h)) tyX2 tyX2_ok nmX2 1 (by decide) (List.mem_of_getElem? (i := 2) rfl) rfl (ty := .int) (by decide +kernel) (vp_nar_int _) rfl (Nat.le_of_ble_eq_true rfl) (mup_ps G (pwU S (va_up (pwS S) i (va_up (pwS S i) (q / 64) ((pwS S i (q / 64)) ^^^ (1 <<< ((nI (q % 64)).toInt64 &&& 63)))))) i ((psS S i) + ((-1)))) dX2_put_42 (fun H locs hw hS => ?_)
      exact rv hx hb hlk hr (by unfold putS; rw [if_neg h1, if_neg (by rw [h2]; decide)]; exact hw) hS  (Nat.le_of_ble_eq_true rfl) (Nat.le_of_ble_eq_true rfl) dX2_put_45
    · skip
      have h2 := bI_n0.mp h2
      refine lv_iconst (v := nI 1) hx hb dX2_put_36 (by decide) ?_
      refine lv_goto (tgt := 41) hx hb dX2_put_37 (by decide) ?_
      refine lv_iadd hx hb dX2_put_41 ?_
      refine pf (S' := (psU (pwU S (va_up (pwS S) i (va_up (pwS S i) (q / 64) ((pwS S i (q / 64)) ^^^ (1 <<< ((nI (q % 64)).toInt64 &&& 63)))))) (va_up (psS (pwU S (va_up (pwS S) i (va_up (pwS S i) (q / 64) ((pwS S i (q / 64)) ^^^ (1 <<< ((nI (q % 64)).toInt64 &&& 63))))))) i ((psS S i) + (nI 1))))) hx hb hown hts hw hT hS 5 i (show i < 4 by omega) (ci := 2) rfl rfl (fun _ h => List.mem_cons_of_mem _ (List.mem_append_right _ h)) tyX2 tyX2_ok nmX2 1 (by decide) (List.mem_of_getElem? (i := 2) rfl) rfl (ty := .int) (by decide +kernel) (vp_nar_int _) rfl (Nat.le_of_ble_eq_true rfl) (mup_ps G (pwU S (va_up (pwS S) i (va_up (pwS S i) (q / 64) ((pwS S i (q / 64)) ^^^ (1 <<< ((nI (q % 64)).toInt64 &&& 63)))))) i ((psS S i) + (nI 1))) dX2_put_42 (fun H locs hw hS => ?_)
      exact rv hx hb hlk hr (by unfold putS; rw [if_neg h1, if_pos h2]; exact hw) hS  (Nat.le_of_ble_eq_true rfl) (Nat.le_of_ble_eq_true rfl) dX2_put_45
set_option maxRecDepth 100000 in
set_option maxHeartbeats 1000000 in
theorem c_copySet (l : Launch) (G : Gm) (S : St) (i : Nat) (hi : i < 4) (a : Nat) (ha : a < 4) (hne : a ≠ i) : Pv l yX2_copyFrom wsX2_copyFrom ({ frames := 1, cells := 0, slots := 0, locals := 60 } : Room) [.ref (g_ad G 5 i), .ref (g_ad G 5 a)] G S (cpsS S i a) := by
  refine ent (cc := cX2_copyFrom) (maxL := 2) (ret := none) (by decide) rfl (Nat.le_of_ble_eq_true rfl) ?_
  intro p e s m below meth c ls C hw hT hS hl
  obtain ⟨hx, hb, hr, hml, hown, hts, hlk⟩ := C
  have hl : lv_has ls 2 [(0, .ref (g_ad G 5 i)), (1, .ref (g_ad G 5 a))] := hl
  refine lv_aload_n hx hb dX2_copyFrom_0 rfl (lv_at hl 1 rfl) ?_
  refine gf hx hb hown hts hw hT 5 a (show a < 4 by omega) (ci := 2) rfl rfl (fun _ h => List.mem_cons_of_mem _ (List.mem_append_right _ h)) 0 (by decide) (List.mem_of_getElem? (i := 1) rfl) (v := .ref (g_ad G 6 a)) rfl dX2_copyFrom_1 ?_
  refine lv_iconst (v := nI 0) hx hb dX2_copyFrom_4 (by decide) ?_
  refine lv_aload_n hx hb dX2_copyFrom_5 rfl (lv_at hl 0 rfl) ?_
  refine gf hx hb hown hts hw hT 5 i (show i < 4 by omega) (ci := 2) rfl rfl (fun _ h => List.mem_cons_of_mem _ (List.mem_append_right _ h)) 0 (by decide) (List.mem_of_getElem? (i := 1) rfl) (v := .ref (g_ad G 6 i)) rfl dX2_copyFrom_6 ?_
  refine lv_iconst (v := nI 0) hx hb dX2_copyFrom_9 (by decide) ?_
  refine lv_sipush (v := nI 4096) hx hb dX2_copyFrom_10 (by decide) ?_
  refine cpJ (S' := (pwU S (va_up (pwS S) i (va_cpy (pwS S a) (pwS S i) 0 0 4096)))) hx hb hml hown hts (List.mem_of_getElem? (i := 2) rfl) (List.mem_of_getElem? (i := 3) rfl) (List.mem_of_getElem? (i := 4) rfl) (List.mem_of_getElem? (i := 5) rfl) hl.1 hw hT hS a i (show a < 4 by omega) (show i < 4 by omega) hne (mup_pw G S i (va_cpy (pwS S a) (pwS S i) 0 0 4096)) (Nat.le_of_ble_eq_true rfl) (Nat.le_of_ble_eq_true rfl) dX2_copyFrom_13 (fun H locs hw hS => ?_)
  refine lv_aload_n hx hb dX2_copyFrom_16 rfl (lv_at hl 0 rfl) ?_
  refine lv_aload_n hx hb dX2_copyFrom_17 rfl (lv_at hl 1 rfl) ?_
  refine gf hx hb hown hts hw hT 5 a (show a < 4 by omega) (ci := 2) rfl rfl (fun _ h => List.mem_cons_of_mem _ (List.mem_append_right _ h)) 1 (by decide) (List.mem_of_getElem? (i := 6) rfl) (v := .int (psS S a)) rfl dX2_copyFrom_18 ?_
  refine pf (S' := (psU (pwU S (va_up (pwS S) i (va_cpy (pwS S a) (pwS S i) 0 0 4096))) (va_up (psS (pwU S (va_up (pwS S) i (va_cpy (pwS S a) (pwS S i) 0 0 4096)))) i (psS S a)))) hx hb hown hts hw hT hS 5 i (show i < 4 by omega) (ci := 2) rfl rfl (fun _ h => List.mem_cons_of_mem _ (List.mem_append_right _ h)) tyX2 tyX2_ok nmX2 1 (by decide) (List.mem_of_getElem? (i := 6) rfl) rfl (ty := .int) (by decide +kernel) (vp_nar_int _) rfl (Nat.le_of_ble_eq_true rfl) (mup_ps G (pwU S (va_up (pwS S) i (va_cpy (pwS S a) (pwS S i) 0 0 4096))) i (psS S a)) dX2_copyFrom_21 (fun H locs hw hS => ?_)
  exact rv hx hb hlk hr hw hS  (Nat.le_of_ble_eq_true rfl) (Nat.le_of_ble_eq_true rfl) dX2_copyFrom_24
set_option maxRecDepth 100000 in
set_option maxHeartbeats 1000000 in
theorem c_bitAt (l : Launch) (G : Gm) (S : St) (x : Int64) (k : Int32) : Pi l yX2_bitAt wsX2_bitAt ({ frames := 0, cells := 0, slots := 0, locals := 0 } : Room) [.long x, .int k] G S (baF x 64 0 k) S := by
  refine ent (cc := cX2_bitAt) (maxL := 5) (ret := (some .int)) (by decide) rfl (Nat.le_of_ble_eq_true rfl) ?_
  intro p e s m below meth c ls C hw hT hS hl
  obtain ⟨hx, hb, hr, hml, hown, hts, hlk⟩ := C
  have hl : lv_has ls 5 [(0, .long x), (2, .int k)] := hl
  refine lv_iload_n hx hb dX2_bitAt_0 rfl (lv_at hl 1 rfl) ?_
  refine lv_istore_n (lv' := [(3, .int k), (0, .long x), (2, .int k)]) hx hb dX2_bitAt_1 rfl hl (by decide) rfl (fun ls hl => ?_)
  refine lv_iconst (v := nI 0) hx hb dX2_bitAt_2 (by decide) ?_
  refine lv_istore (lv' := [(4, .int (nI 0)), (3, .int k), (0, .long x), (2, .int k)]) hx hb dX2_bitAt_3 hl (by decide) rfl (fun ls hl => ?_)
  have LOOP : ∀ (n b : Nat) (lf : Int32) (H : Heap) (locs : List Loc) (ls : Array Slot), b + n = 64 → (baF x n b lf = baF x 64 0 k) → wdM G S H s → va_S (g_A G) s.heap H locs → lv_has ls 5 [(4, .int (nI b)), (3, .int lf), (0, .long x), (2, .int k)] → W p l e ({ frames := 0, cells := 0, slots := 0, locals := 0 } : Room) s m ([.long x, .int k] : List Value).toArray below meth c H locs 0 0 (MQ below (Qi G (baF x 64 0 k) S) ([.long x, .int k] : List Value).toArray s ({ frames := 0, cells := 0, slots := 0, locals := 0 } : Room).cells ({ frames := 0, cells := 0, slots := 0, locals := 0 } : Room).slots (g_A G)) (F0 m 5 ls []) := by
    intro n
    induction n with
    | zero =>
      intro b lf H locs ls hn hq hw hS hl
      obtain rfl : 64 = b := by omega
      refine lv_iload hx hb dX2_bitAt_5 (lv_at hl 0 rfl) ?_
      refine lv_bipush (v := nI 64) hx hb dX2_bitAt_7 (by decide) ?_
      refine lv_icmp_ge (tgt := 39) hx hb dX2_bitAt_9 (by decide) (fun _ => ?_) (fun q => absurd (by decide) q)
      refine lv_iconst (v := nI 0) hx hb dX2_bitAt_39 (by decide) ?_
      exact ri hx hb hlk hr hw hS (by rw [← hq]; rfl) (vp_nar_int _) (Nat.le_of_ble_eq_true rfl) (Nat.le_of_ble_eq_true rfl) dX2_bitAt_40
    | succ n ih =>
      intro b lf H locs ls hn hq hw hS hl
      have hi : b < 64 := by omega
      refine lv_iload hx hb dX2_bitAt_5 (lv_at hl 0 rfl) ?_
      refine lv_bipush (v := nI 64) hx hb dX2_bitAt_7 (by decide) ?_
      refine lv_icmp_ge (tgt := 39) hx hb dX2_bitAt_9 (by decide) (fun q => absurd q (nI_ge hi (by decide))) (fun _ => ?_)
      refine lv_lload_n hx hb dX2_bitAt_12 rfl (lv_at hl 2 rfl) ?_
      refine lv_iload hx hb dX2_bitAt_13 (lv_at hl 0 rfl) ?_
      refine lv_lushr hx hb dX2_bitAt_15 rfl ?_
      refine lv_lconst (v := 1) hx hb dX2_bitAt_16 (by decide) ?_
      refine lv_land hx hb dX2_bitAt_17 ?_
      refine lv_lconst (v := 0) hx hb dX2_bitAt_18 (by decide) ?_
      refine lc_eq (x := ((x.toUInt64 >>> ((nI b).toInt64.toUInt64 &&& Int64.toUInt64 63)).toInt64) &&& 1) (y := 0) (tgt := 33) hx hb dX2_bitAt_19 dX2_bitAt_20 (by decide) (fun h3 => ?_) (fun h3 => ?_)
      · skip
        have h3 := (tb_0 x (by omega)).mp h3
        refine lv_iinc (v := nI (b + 1)) (lv' := [(4, .int (nI (b + 1))), (3, .int lf), (0, .long x), (2, .int k)]) hx hb dX2_bitAt_33 hl (k := 0) rfl (nI_add b 1) (by decide) rfl (fun ls hl => ?_)
        refine lv_goto (tgt := 5) hx hb dX2_bitAt_36 (by decide) ?_
        exact ih (b + 1) lf H locs ls (by omega) (by rw [← hq]; simp [baF, h3]) hw hS (lv_sub hl [0, 1, 2, 3] rfl)
      · skip
        have h3 := (tb_1 x (by omega)).mp h3
        refine lv_iload_n hx hb dX2_bitAt_23 rfl (lv_at hl 1 rfl) ?_
        refine lv_if_ne (tgt := 30) hx hb dX2_bitAt_24 (by decide) (fun h4 => ?_) (fun h4 => ?_)
        · skip
          refine lv_iinc (v := lf + (-1)) (lv' := [(3, .int (lf + (-1))), (4, .int (nI b)), (0, .long x), (2, .int k)]) hx hb dX2_bitAt_30 hl (k := 1) rfl rfl (by decide) rfl (fun ls hl => ?_)
          refine lv_iinc (v := nI (b + 1)) (lv' := [(4, .int (nI (b + 1))), (3, .int (lf + (-1))), (0, .long x), (2, .int k)]) hx hb dX2_bitAt_33 hl (k := 1) rfl (nI_add b 1) (by decide) rfl (fun ls hl => ?_)
          refine lv_goto (tgt := 5) hx hb dX2_bitAt_36 (by decide) ?_
          exact ih (b + 1) (lf + (-1)) H locs ls (by omega) (by rw [← hq]; simp [baF, h3, h4]) hw hS (lv_sub hl [0, 1, 2, 3] rfl)
        · skip
          refine lv_iload hx hb dX2_bitAt_27 (lv_at hl 0 rfl) ?_
          exact ri hx hb hlk hr hw hS (by rw [← hq]; simp [baF, h3, h4]) (vp_nar_int _) (Nat.le_of_ble_eq_true rfl) (Nat.le_of_ble_eq_true rfl) dX2_bitAt_29
  exact LOOP 64 0 k _ _ ls (by omega) rfl hw hS (lv_sub hl [0, 1, 2, 3] rfl)
set_option maxRecDepth 100000 in
set_option maxHeartbeats 1000000 in
theorem c_codeAt (l : Launch) (G : Gm) (S : St) (i : Nat) (hi : i < 4) (k : Int32) : Pi l yX2_codeAt wsX2_codeAt ({ frames := 1, cells := 0, slots := 0, locals := 24 } : Room) [.ref (g_ad G 5 i), .int k] G S (caF (pwS S i) 4096 0 k) S := by
  refine ent (cc := cX2_codeAt) (maxL := 5) (ret := (some .int)) (by decide) rfl (Nat.le_of_ble_eq_true rfl) ?_
  intro p e s m below meth c ls C hw hT hS hl
  obtain ⟨hx, hb, hr, hml, hown, hts, hlk⟩ := C
  have hl : lv_has ls 5 [(0, .ref (g_ad G 5 i)), (1, .int k)] := hl
  refine lv_iload_n hx hb dX2_codeAt_0 rfl (lv_at hl 1 rfl) ?_
  refine lv_istore_n (lv' := [(2, .int k), (0, .ref (g_ad G 5 i)), (1, .int k)]) hx hb dX2_codeAt_1 rfl hl (by decide) rfl (fun ls hl => ?_)
  refine lv_iconst (v := nI 0) hx hb dX2_codeAt_2 (by decide) ?_
  refine lv_istore_n (lv' := [(3, .int (nI 0)), (2, .int k), (0, .ref (g_ad G 5 i)), (1, .int k)]) hx hb dX2_codeAt_3 rfl hl (by decide) rfl (fun ls hl => ?_)
  have LOOP : ∀ (n b : Nat) (lf : Int32) (H : Heap) (locs : List Loc) (ls : Array Slot), b + n = 4096 → (caF (pwS S i) n b lf = caF (pwS S i) 4096 0 k) → wdM G S H s → va_S (g_A G) s.heap H locs → lv_has ls 5 [(3, .int (nI b)), (2, .int lf), (0, .ref (g_ad G 5 i)), (1, .int k)] → W p l e ({ frames := 1, cells := 0, slots := 0, locals := 24 } : Room) s m ([.ref (g_ad G 5 i), .int k] : List Value).toArray below meth c H locs 0 0 (MQ below (Qi G (caF (pwS S i) 4096 0 k) S) ([.ref (g_ad G 5 i), .int k] : List Value).toArray s ({ frames := 1, cells := 0, slots := 0, locals := 24 } : Room).cells ({ frames := 1, cells := 0, slots := 0, locals := 24 } : Room).slots (g_A G)) (F0 m 4 ls []) := by
    intro n
    induction n with
    | zero =>
      intro b lf H locs ls hn hq hw hS hl
      obtain rfl : 4096 = b := by omega
      refine lv_iload_n hx hb dX2_codeAt_4 rfl (lv_at hl 0 rfl) ?_
      refine lv_sipush (v := nI 4096) hx hb dX2_codeAt_5 (by decide) ?_
      refine lv_icmp_ge (tgt := 55) hx hb dX2_codeAt_8 (by decide) (fun _ => ?_) (fun q => absurd (by decide) q)
      refine lv_iconst (v := (-1)) hx hb dX2_codeAt_55 (by decide) ?_
      exact ri hx hb hlk hr hw hS (by rw [← hq]; rfl) (vp_nar_int _) (Nat.le_of_ble_eq_true rfl) (Nat.le_of_ble_eq_true rfl) dX2_codeAt_56
    | succ n ih =>
      intro b lf H locs ls hn hq hw hS hl
      have hb9 : b < 4096 := by omega
      refine lv_iload_n hx hb dX2_codeAt_4 rfl (lv_at hl 0 rfl) ?_
      refine lv_sipush (v := nI 4096) hx hb dX2_codeAt_5 (by decide) ?_
      refine lv_icmp_ge (tgt := 55) hx hb dX2_codeAt_8 (by decide) (fun q => absurd q (nI_ge hb9 (by decide))) (fun _ => ?_)
      refine lv_aload_n hx hb dX2_codeAt_11 rfl (lv_at hl 2 rfl) ?_
      refine gf hx hb hown hts hw hT 5 i (show i < 4 by omega) (ci := 2) rfl rfl (fun _ h => List.mem_cons_of_mem _ (List.mem_append_right _ h)) 0 (by decide) (List.mem_of_getElem? (i := 1) rfl) (v := .ref (g_ad G 6 i)) rfl dX2_codeAt_12 ?_
      refine lv_iload_n hx hb dX2_codeAt_15 rfl (lv_at hl 0 rfl) ?_
      refine all hx hb hw hT 6 i (show i < 4 by omega) (f := pwS S i) rfl b (show b < 4096 by omega) (by decide) dX2_codeAt_16 ?_
      refine cSi ⟨hx, hb, hml, hown, hts⟩ (c_bitCount l G S (pwS S i b)) (va_cwS 1 hts gX2_codeAt_J13_bitCount_95d88 rfl rfl rfl (by decide +kernel) ⟨(Nat.le_of_ble_eq_true rfl), (Nat.le_of_ble_eq_true rfl)⟩) hw hT hS (As := [.long (pwS S i b)]) (rest := []) rfl hl.1 rfl (Nat.le_of_ble_eq_true rfl) dX2_codeAt_17 ⟨(Nat.le_of_ble_eq_true rfl), (Nat.le_of_ble_eq_true rfl)⟩ (fun H locs hw hS => ?_)
      refine lv_istore (lv' := [(4, .int (bcF (pwS S i b))), (3, .int (nI b)), (2, .int lf), (0, .ref (g_ad G 5 i)), (1, .int k)]) hx hb dX2_codeAt_20 hl (by decide) rfl (fun ls hl => ?_)
      refine lv_iload_n hx hb dX2_codeAt_22 rfl (lv_at hl 2 rfl) ?_
      refine lv_iload hx hb dX2_codeAt_23 (lv_at hl 0 rfl) ?_
      refine lv_icmp_ge (tgt := 44) hx hb dX2_codeAt_25 (by decide) (fun h3 => ?_) (fun h3 => ?_)
      · skip
        have h3 : ¬ lf < bcF (pwS S i b) := Int32.not_lt.mpr h3
        refine lv_iload_n hx hb dX2_codeAt_44 rfl (lv_at hl 2 rfl) ?_
        refine lv_iload hx hb dX2_codeAt_45 (lv_at hl 0 rfl) ?_
        refine lv_isub hx hb dX2_codeAt_47 ?_
        refine lv_istore_n (lv' := [(2, .int (lf - (bcF (pwS S i b)))), (4, .int (bcF (pwS S i b))), (3, .int (nI b)), (0, .ref (g_ad G 5 i)), (1, .int k)]) hx hb dX2_codeAt_48 rfl hl (by decide) rfl (fun ls hl => ?_)
        refine lv_iinc (v := nI (b + 1)) (lv' := [(3, .int (nI (b + 1))), (2, .int (lf - (bcF (pwS S i b)))), (4, .int (bcF (pwS S i b))), (0, .ref (g_ad G 5 i)), (1, .int k)]) hx hb dX2_codeAt_49 hl (k := 2) rfl (nI_add b 1) (by decide) rfl (fun ls hl => ?_)
        refine lv_goto (tgt := 4) hx hb dX2_codeAt_52 (by decide) ?_
        exact ih (b + 1) (lf - (bcF (pwS S i b))) H locs ls (by omega) (by rw [← hq]; simp [caF, h3]) hw hS (lv_sub hl [0, 1, 3, 4] rfl)
      · skip
        have h3 : lf < bcF (pwS S i b) := Int32.not_le.mp h3
        refine lv_iload_n hx hb dX2_codeAt_28 rfl (lv_at hl 1 rfl) ?_
        refine lv_bipush (v := nI 64) hx hb dX2_codeAt_29 (by decide) ?_
        refine lv_imul hx hb dX2_codeAt_31 ?_
        refine top_i (y := nI (b * 64)) (pk_mul b 64) ?_
        refine lv_aload_n hx hb dX2_codeAt_32 rfl (lv_at hl 3 rfl) ?_
        refine gf hx hb hown hts hw hT 5 i (show i < 4 by omega) (ci := 2) rfl rfl (fun _ h => List.mem_cons_of_mem _ (List.mem_append_right _ h)) 0 (by decide) (List.mem_of_getElem? (i := 1) rfl) (v := .ref (g_ad G 6 i)) rfl dX2_codeAt_33 ?_
        refine lv_iload_n hx hb dX2_codeAt_36 rfl (lv_at hl 1 rfl) ?_
        refine all hx hb hw hT 6 i (show i < 4 by omega) (f := pwS S i) rfl b (show b < 4096 by omega) (by decide) dX2_codeAt_37 ?_
        refine lv_iload_n hx hb dX2_codeAt_38 rfl (lv_at hl 2 rfl) ?_
        refine cSi ⟨hx, hb, hml, hown, hts⟩ (c_bitAt l G S (pwS S i b) lf) (va_cwS 2 hts gX2_codeAt_X2_bitAt rfl rfl rfl (by decide +kernel) ⟨(Nat.le_of_ble_eq_true rfl), (Nat.le_of_ble_eq_true rfl)⟩) hw hT hS (As := [.long (pwS S i b), .int lf]) (rest := [.int (nI (b * 64))]) rfl hl.1 rfl (Nat.le_of_ble_eq_true rfl) dX2_codeAt_39 ⟨(Nat.le_of_ble_eq_true rfl), (Nat.le_of_ble_eq_true rfl)⟩ (fun H locs hw hS => ?_)
        refine lv_iadd hx hb dX2_codeAt_42 ?_
        exact ri hx hb hlk hr hw hS (by rw [← hq]; simp [caF, h3]) (vp_nar_int _) (Nat.le_of_ble_eq_true rfl) (Nat.le_of_ble_eq_true rfl) dX2_codeAt_43
  exact LOOP 4096 0 k _ _ ls (by omega) rfl hw hS (lv_sub hl [0, 1, 2, 3] rfl)
theorem df_0 (a b o : Nat → Int64) : dfR a b o 0 = o := by funext k; simp [dfR]
theorem df_s (a b o : Nat → Int64) (n : Nat) : va_up (dfR a b o n) n (dfW a b n) = dfR a b o (n + 1) := by
  funext k
  by_cases h : k = n
  · subst h; simp [va_up, dfR]
  · by_cases h2 : k < n
    · simp [va_up, dfR, h, h2, Nat.lt_succ_of_lt h2]
    · have h3 : ¬ k < n + 1 := by omega
      simp [va_up, dfR, h, h2, h3]
theorem pw_self (S : St) (i : Nat) : pwU S (va_up (pwS S) i (pwS S i)) = S := by
  have : va_up (pwS S) i (pwS S i) = pwS S := by funext k; by_cases h : k = i <;> simp [va_up, h]
  rw [this]; rfl
set_option maxRecDepth 100000 in
set_option maxHeartbeats 1000000 in
theorem c_diff (l : Launch) (G : Gm) (S : St) (i : Nat) (hi : i < 4) (a : Nat) (ha : a < 4) (b : Nat) (hb4 : b < 4) (hia : a ≠ i) (hib : b ≠ i) : Pv l yX2_setToDifference wsX2_setToDifference ({ frames := 1, cells := 0, slots := 0, locals := 21 } : Room) [.ref (g_ad G 5 i), .ref (g_ad G 5 a), .ref (g_ad G 5 b)] G S (dfS S i a b 4096) := by
  refine ent (cc := cX2_setToDifference) (maxL := 4) (ret := none) (by decide) rfl (Nat.le_of_ble_eq_true rfl) ?_
  intro p e s m below meth c ls C hw hT hS hl
  obtain ⟨hx, hb, hr, hml, hown, hts, hlk⟩ := C
  have hl : lv_has ls 4 [(0, .ref (g_ad G 5 i)), (1, .ref (g_ad G 5 a)), (2, .ref (g_ad G 5 b))] := hl
  refine lv_aload_n hx hb dX2_setToDifference_0 rfl (lv_at hl 0 rfl) ?_
  refine lv_iconst (v := nI 0) hx hb dX2_setToDifference_1 (by decide) ?_
  refine pf (S' := (psU S (va_up (psS S) i (nI 0)))) hx hb hown hts hw hT hS 5 i (show i < 4 by omega) (ci := 2) rfl rfl (fun _ h => List.mem_cons_of_mem _ (List.mem_append_right _ h)) tyX2 tyX2_ok nmX2 1 (by decide) (List.mem_of_getElem? (i := 1) rfl) rfl (ty := .int) (by decide +kernel) (vp_nar_int _) rfl (Nat.le_of_ble_eq_true rfl) (mup_ps G S i (nI 0)) dX2_setToDifference_2 (fun H locs hw hS => ?_)
  refine lv_iconst (v := nI 0) hx hb dX2_setToDifference_5 (by decide) ?_
  refine lv_istore_n (lv' := [(3, .int (nI 0)), (0, .ref (g_ad G 5 i)), (1, .ref (g_ad G 5 a)), (2, .ref (g_ad G 5 b))]) hx hb dX2_setToDifference_6 rfl hl (by decide) rfl (fun ls hl => ?_)
  have hw : wdM G (dfS S i a b 0) H s := by
    unfold dfS
    rw [df_0, pw_self]
    exact hw
  have LOOP : ∀ (n k : Nat)  (H : Heap) (locs : List Loc) (ls : Array Slot), k + n = 4096 → wdM G (dfS S i a b k) H s → va_S (g_A G) s.heap H locs → lv_has ls 4 [(3, .int (nI k)), (0, .ref (g_ad G 5 i)), (1, .ref (g_ad G 5 a)), (2, .ref (g_ad G 5 b))] → W p l e ({ frames := 1, cells := 0, slots := 0, locals := 21 } : Room) s m ([.ref (g_ad G 5 i), .ref (g_ad G 5 a), .ref (g_ad G 5 b)] : List Value).toArray below meth c H locs 0 0 (MQ below (Qv G (dfS S i a b 4096)) ([.ref (g_ad G 5 i), .ref (g_ad G 5 a), .ref (g_ad G 5 b)] : List Value).toArray s ({ frames := 1, cells := 0, slots := 0, locals := 21 } : Room).cells ({ frames := 1, cells := 0, slots := 0, locals := 21 } : Room).slots (g_A G)) (F0 m 7 ls []) := by
    intro n
    induction n with
    | zero =>
      intro k  H locs ls hn  hw hS hl
      obtain rfl : 4096 = k := by omega
      refine lv_iload_n hx hb dX2_setToDifference_7 rfl (lv_at hl 0 rfl) ?_
      refine lv_sipush (v := nI 4096) hx hb dX2_setToDifference_8 (by decide) ?_
      refine lv_icmp_ge (tgt := 61) hx hb dX2_setToDifference_11 (by decide) (fun _ => ?_) (fun q => absurd (by decide) q)
      exact rv hx hb hlk hr hw hS  (Nat.le_of_ble_eq_true rfl) (Nat.le_of_ble_eq_true rfl) dX2_setToDifference_61
    | succ n ih =>
      intro k  H locs ls hn  hw hS hl
      have hk : k < 4096 := by omega
      have ra : pwS (dfS S i a b k) a = pwS S a := by unfold dfS; exact va_up_ne _ _ hia
      have rb : pwS (dfS S i a b k) b = pwS S b := by unfold dfS; exact va_up_ne _ _ hib
      have ri9 : pwS (dfS S i a b k) i = dfR (pwS S a) (pwS S b) (pwS S i) k := by unfold dfS; exact va_up_self _ _ _
      have rs : psS (dfS S i a b k) i = dfC (pwS S a) (pwS S b) k := by unfold dfS; exact va_up_self _ _ _
      refine lv_iload_n hx hb dX2_setToDifference_7 rfl (lv_at hl 0 rfl) ?_
      refine lv_sipush (v := nI 4096) hx hb dX2_setToDifference_8 (by decide) ?_
      refine lv_icmp_ge (tgt := 61) hx hb dX2_setToDifference_11 (by decide) (fun q => absurd q (nI_ge hk (by decide))) (fun _ => ?_)
      refine lv_aload_n hx hb dX2_setToDifference_14 rfl (lv_at hl 1 rfl) ?_
      refine gf hx hb hown hts hw hT 5 i (show i < 4 by omega) (ci := 2) rfl rfl (fun _ h => List.mem_cons_of_mem _ (List.mem_append_right _ h)) 0 (by decide) (List.mem_of_getElem? (i := 2) rfl) (v := .ref (g_ad G 6 i)) rfl dX2_setToDifference_15 ?_
      refine lv_iload_n hx hb dX2_setToDifference_18 rfl (lv_at hl 0 rfl) ?_
      refine lv_aload_n hx hb dX2_setToDifference_19 rfl (lv_at hl 2 rfl) ?_
      refine gf hx hb hown hts hw hT 5 a (show a < 4 by omega) (ci := 2) rfl rfl (fun _ h => List.mem_cons_of_mem _ (List.mem_append_right _ h)) 0 (by decide) (List.mem_of_getElem? (i := 2) rfl) (v := .ref (g_ad G 6 a)) rfl dX2_setToDifference_20 ?_
      refine lv_iload_n hx hb dX2_setToDifference_23 rfl (lv_at hl 0 rfl) ?_
      refine all hx hb hw hT 6 a (show a < 4 by omega) (f := pwS (dfS S i a b k) a) rfl k (show k < 4096 by omega) (by decide) dX2_setToDifference_24 ?_
      refine lv_aload_n hx hb dX2_setToDifference_25 rfl (lv_at hl 3 rfl) ?_
      refine gf hx hb hown hts hw hT 5 b (show b < 4 by omega) (ci := 2) rfl rfl (fun _ h => List.mem_cons_of_mem _ (List.mem_append_right _ h)) 0 (by decide) (List.mem_of_getElem? (i := 2) rfl) (v := .ref (g_ad G 6 b)) rfl dX2_setToDifference_26 ?_
      refine lv_iload_n hx hb dX2_setToDifference_29 rfl (lv_at hl 0 rfl) ?_
      refine all hx hb hw hT 6 b (show b < 4 by omega) (f := pwS (dfS S i a b k) b) rfl k (show k < 4096 by omega) (by decide) dX2_setToDifference_30 ?_
      refine lv_ldc2 (v := -1) hx hb hown (hts _ (List.mem_of_getElem? (i := 3) rfl)) dX2_setToDifference_31 ?_
      refine lv_lxor hx hb dX2_setToDifference_34 ?_
      refine lv_land hx hb dX2_setToDifference_35 ?_
      refine als (S' := (pwU (dfS S i a b k) (va_up (pwS (dfS S i a b k)) i (va_up (pwS (dfS S i a b k) i) k ((pwS (dfS S i a b k) a k) &&& ((pwS (dfS S i a b k) b k) ^^^ ((-1)))))))) hx hb hw hT hS 6 i (show i < 4 by omega) (f := pwS (dfS S i a b k) i) rfl k (show k < 4096 by omega) (by decide) (mup_pw G (dfS S i a b k) i (va_up (pwS (dfS S i a b k) i) k ((pwS (dfS S i a b k) a k) &&& ((pwS (dfS S i a b k) b k) ^^^ ((-1)))))) dX2_setToDifference_36 (fun H locs hw hS => ?_)
      refine lv_aload_n hx hb dX2_setToDifference_37 rfl (lv_at hl 1 rfl) ?_
      refine lv_dup hx hb dX2_setToDifference_38 rfl ?_
      refine gf hx hb hown hts hw hT 5 i (show i < 4 by omega) (ci := 2) rfl rfl (fun _ h => List.mem_cons_of_mem _ (List.mem_append_right _ h)) 1 (by decide) (List.mem_of_getElem? (i := 1) rfl) (v := .int (psS (dfS S i a b k) i)) rfl dX2_setToDifference_39 ?_
      refine lv_aload_n hx hb dX2_setToDifference_42 rfl (lv_at hl 1 rfl) ?_
      refine gf hx hb hown hts hw hT 5 i (show i < 4 by omega) (ci := 2) rfl rfl (fun _ h => List.mem_cons_of_mem _ (List.mem_append_right _ h)) 0 (by decide) (List.mem_of_getElem? (i := 2) rfl) (v := .ref (g_ad G 6 i)) rfl dX2_setToDifference_43 ?_
      refine lv_iload_n hx hb dX2_setToDifference_46 rfl (lv_at hl 0 rfl) ?_
      refine all hx hb hw hT 6 i (show i < 4 by omega) (f := va_up (pwS (dfS S i a b k) i) k ((pwS (dfS S i a b k) a k) &&& ((pwS (dfS S i a b k) b k) ^^^ ((-1))))) (mup_pw G (dfS S i a b k) i _).1 k (show k < 4096 by omega) (by decide) dX2_setToDifference_47 ?_
      refine top_l (y := (pwS (dfS S i a b k) a k) &&& ((pwS (dfS S i a b k) b k) ^^^ ((-1)))) (va_up_self _ _ _) ?_
      refine cSi ⟨hx, hb, hml, hown, hts⟩ (c_bitCount l G (pwU (dfS S i a b k) (va_up (pwS (dfS S i a b k)) i (va_up (pwS (dfS S i a b k) i) k ((pwS (dfS S i a b k) a k) &&& ((pwS (dfS S i a b k) b k) ^^^ ((-1))))))) ((pwS (dfS S i a b k) a k) &&& ((pwS (dfS S i a b k) b k) ^^^ ((-1))))) (va_cwS 1 hts gX2_setToDifference_J13_bitCount_95d88 rfl rfl rfl (by decide +kernel) ⟨(Nat.le_of_ble_eq_true rfl), (Nat.le_of_ble_eq_true rfl)⟩) hw hT hS (As := [.long ((pwS (dfS S i a b k) a k) &&& ((pwS (dfS S i a b k) b k) ^^^ ((-1))))]) (rest := [.int (psS (dfS S i a b k) i), .ref (g_ad G 5 i)]) rfl hl.1 rfl (Nat.le_of_ble_eq_true rfl) dX2_setToDifference_48 ⟨(Nat.le_of_ble_eq_true rfl), (Nat.le_of_ble_eq_true rfl)⟩ (fun H locs hw hS => ?_)
      refine lv_iadd hx hb dX2_setToDifference_51 ?_
      refine pf (S' := (psU (pwU (dfS S i a b k) (va_up (pwS (dfS S i a b k)) i (va_up (pwS (dfS S i a b k) i) k ((pwS (dfS S i a b k) a k) &&& ((pwS (dfS S i a b k) b k) ^^^ ((-1))))))) (va_up (psS (pwU (dfS S i a b k) (va_up (pwS (dfS S i a b k)) i (va_up (pwS (dfS S i a b k) i) k ((pwS (dfS S i a b k) a k) &&& ((pwS (dfS S i a b k) b k) ^^^ ((-1)))))))) i ((psS (dfS S i a b k) i) + (bcF ((pwS (dfS S i a b k) a k) &&& ((pwS (dfS S i a b k) b k) ^^^ ((-1))))))))) hx hb hown hts hw hT hS 5 i (show i < 4 by omega) (ci := 2) rfl rfl (fun _ h => List.mem_cons_of_mem _ (List.mem_append_right _ h)) tyX2 tyX2_ok nmX2 1 (by decide) (List.mem_of_getElem? (i := 1) rfl) rfl (ty := .int) (by decide +kernel) (vp_nar_int _) rfl (Nat.le_of_ble_eq_true rfl) (mup_ps G (pwU (dfS S i a b k) (va_up (pwS (dfS S i a b k)) i (va_up (pwS (dfS S i a b k) i) k ((pwS (dfS S i a b k) a k) &&& ((pwS (dfS S i a b k) b k) ^^^ ((-1))))))) i ((psS (dfS S i a b k) i) + (bcF ((pwS (dfS S i a b k) a k) &&& ((pwS (dfS S i a b k) b k) ^^^ ((-1))))))) dX2_setToDifference_52 (fun H locs hw hS => ?_)
      refine lv_iinc (v := nI (k + 1)) (lv' := [(3, .int (nI (k + 1))), (0, .ref (g_ad G 5 i)), (1, .ref (g_ad G 5 a)), (2, .ref (g_ad G 5 b))]) hx hb dX2_setToDifference_55 hl (k := 0) rfl (nI_add k 1) (by decide) rfl (fun ls hl => ?_)
      refine lv_goto (tgt := 7) hx hb dX2_setToDifference_58 (by decide) ?_
      have hw : wdM G (dfS S i a b (k + 1)) H s := by
        have e9 : (psU (pwU (dfS S i a b k) (va_up (pwS (dfS S i a b k)) i (va_up (pwS (dfS S i a b k) i) k ((pwS (dfS S i a b k) a k) &&& ((pwS (dfS S i a b k) b k) ^^^ ((-1))))))) (va_up (psS (pwU (dfS S i a b k) (va_up (pwS (dfS S i a b k)) i (va_up (pwS (dfS S i a b k) i) k ((pwS (dfS S i a b k) a k) &&& ((pwS (dfS S i a b k) b k) ^^^ ((-1)))))))) i ((psS (dfS S i a b k) i) + (bcF ((pwS (dfS S i a b k) a k) &&& ((pwS (dfS S i a b k) b k) ^^^ ((-1)))))))) = dfS S i a b (k + 1) := by
          unfold dfS
          simp only [pw_pw, ps_pw, ps_ps, pw_ps, va_up_self]
          show psU (pwU S _) _ = psU (pwU S _) _
          congr 1
          · congr 1
            funext q
            by_cases h : q = i
            · subst h; simp only [va_up_self]; rw [← df_s]; congr 1; simp only [va_up_ne _ _ hia, va_up_ne _ _ hib]; rfl
            · simp only [va_up_ne _ _ h]
          · funext q
            by_cases h : q = i
            · subst h; simp only [va_up_self, va_up_ne _ _ hia, va_up_ne _ _ hib]; rfl
            · simp only [va_up_ne _ _ h]
        rw [← e9]
        exact hw
      exact ih (k + 1)  H locs ls (by omega)  hw hS (lv_sub hl [0, 1, 2, 3] rfl)
  exact LOOP 4096 0  _ _ ls (by omega)  hw hS (lv_sub hl [0, 1, 2, 3] rfl)
