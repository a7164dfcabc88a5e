section
-- ===== PART A: goes FIRST, ahead of the names: the tables' words, and 'selects' of the private methods out of them =====
/-- a private method of a class that the tables say can be made, by its rows of tables_1 -/
def lw_okq (q : MethodName × Nat) : Prop := (q.1.cls ≠ "java/lang/invoke/MethodHandle" ∧ q.1.cls ≠ "java/lang/invoke/VarHandle") ∧ Cond.instantiable q.1.cls q.2 ∈ tables_1 ∧ Cond.privateMethod q.1 ∈ tables_1 ∧ Cond.instanceMethod q.1 ∈ tables_1
theorem lw_p0 : lw_okq (⟨"PairFinder", "appendFound", "(IF)V"⟩, 12) := ⟨⟨by decide +kernel, by decide +kernel⟩, List.mem_of_getElem? (i := 15) (by decide +kernel), List.mem_of_getElem? (i := 132) (by decide +kernel), List.mem_of_getElem? (i := 133) (by decide +kernel)⟩
theorem lw_p1 : lw_okq (⟨"java/lang/Throwable", "fillInStackTrace", "(I)Ljava/lang/Throwable;"⟩, 6) := ⟨⟨by decide +kernel, by decide +kernel⟩, List.mem_of_getElem? (i := 192) (by decide +kernel), List.mem_of_getElem? (i := 190) (by decide +kernel), List.mem_of_getElem? (i := 191) (by decide +kernel)⟩
theorem lw_p2 : lw_okq (⟨"PairFinder", "requirePadIsBox", "()V"⟩, 12) := ⟨⟨by decide +kernel, by decide +kernel⟩, List.mem_of_getElem? (i := 15) (by decide +kernel), List.mem_of_getElem? (i := 241) (by decide +kernel), List.mem_of_getElem? (i := 242) (by decide +kernel)⟩
theorem lw_p3 : lw_okq (⟨"PairFinder", "requireRoomFor", "(I)V"⟩, 12) := ⟨⟨by decide +kernel, by decide +kernel⟩, List.mem_of_getElem? (i := 15) (by decide +kernel), List.mem_of_getElem? (i := 250) (by decide +kernel), List.mem_of_getElem? (i := 251) (by decide +kernel)⟩
theorem lw_p4 : lw_okq (⟨"PairFinder", "addBodies", "(IFFFII)I"⟩, 12) := ⟨⟨by decide +kernel, by decide +kernel⟩, List.mem_of_getElem? (i := 15) (by decide +kernel), List.mem_of_getElem? (i := 270) (by decide +kernel), List.mem_of_getElem? (i := 271) (by decide +kernel)⟩
theorem lw_p5 : lw_okq (⟨"PairFinder$Box", "widenAxis", "(IF)V"⟩, 1) := ⟨⟨by decide +kernel, by decide +kernel⟩, List.mem_of_getElem? (i := 23) (by decide +kernel), List.mem_of_getElem? (i := 294) (by decide +kernel), List.mem_of_getElem? (i := 295) (by decide +kernel)⟩
theorem lw_p6 : lw_okq (⟨"PairFinder", "rowStaysGood", "(IFFF)Z"⟩, 12) := ⟨⟨by decide +kernel, by decide +kernel⟩, List.mem_of_getElem? (i := 15) (by decide +kernel), List.mem_of_getElem? (i := 315) (by decide +kernel), List.mem_of_getElem? (i := 316) (by decide +kernel)⟩
theorem lw_p7 : lw_okq (⟨"PairFinder", "requireThere", "(I)V"⟩, 12) := ⟨⟨by decide +kernel, by decide +kernel⟩, List.mem_of_getElem? (i := 15) (by decide +kernel), List.mem_of_getElem? (i := 333) (by decide +kernel), List.mem_of_getElem? (i := 334) (by decide +kernel)⟩
theorem lw_p8 : lw_okq (⟨"PairFinder", "shiftBody", "(LPairFinder$Body;FFF)Z"⟩, 12) := ⟨⟨by decide +kernel, by decide +kernel⟩, List.mem_of_getElem? (i := 15) (by decide +kernel), List.mem_of_getElem? (i := 372) (by decide +kernel), List.mem_of_getElem? (i := 373) (by decide +kernel)⟩
theorem lw_p9 : lw_okq (⟨"PairFinder", "arePair", "(II)Z"⟩, 12) := ⟨⟨by decide +kernel, by decide +kernel⟩, List.mem_of_getElem? (i := 15) (by decide +kernel), List.mem_of_getElem? (i := 391) (by decide +kernel), List.mem_of_getElem? (i := 392) (by decide +kernel)⟩
theorem lw_p10 : lw_okq (⟨"PairFinder", "reviewPairsOf", "(I)V"⟩, 12) := ⟨⟨by decide +kernel, by decide +kernel⟩, List.mem_of_getElem? (i := 15) (by decide +kernel), List.mem_of_getElem? (i := 423) (by decide +kernel), List.mem_of_getElem? (i := 424) (by decide +kernel)⟩
theorem lw_p11 : lw_okq (⟨"PairFinder", "requireFound", "(I)V"⟩, 12) := ⟨⟨by decide +kernel, by decide +kernel⟩, List.mem_of_getElem? (i := 15) (by decide +kernel), List.mem_of_getElem? (i := 485) (by decide +kernel), List.mem_of_getElem? (i := 486) (by decide +kernel)⟩
theorem lw_p12 : lw_okq (⟨"PairFinder", "pairsOf", "(I)I"⟩, 12) := ⟨⟨by decide +kernel, by decide +kernel⟩, List.mem_of_getElem? (i := 15) (by decide +kernel), List.mem_of_getElem? (i := 512) (by decide +kernel), List.mem_of_getElem? (i := 513) (by decide +kernel)⟩
theorem lw_p13 : lw_okq (⟨"PairFinder", "touchedBodies", "()I"⟩, 12) := ⟨⟨by decide +kernel, by decide +kernel⟩, List.mem_of_getElem? (i := 15) (by decide +kernel), List.mem_of_getElem? (i := 524) (by decide +kernel), List.mem_of_getElem? (i := 525) (by decide +kernel)⟩
theorem lw_p14 : lw_okq (⟨"PairFinderModel", "padCorner", "(IFFF)V"⟩, 17) := ⟨⟨by decide +kernel, by decide +kernel⟩, List.mem_of_getElem? (i := 529) (by decide +kernel), List.mem_of_getElem? (i := 596) (by decide +kernel), List.mem_of_getElem? (i := 597) (by decide +kernel)⟩
theorem lw_p15 : lw_okq (⟨"PairFinderModel", "goes", "(ZZ)Z"⟩, 17) := ⟨⟨by decide +kernel, by decide +kernel⟩, List.mem_of_getElem? (i := 529) (by decide +kernel), List.mem_of_getElem? (i := 605) (by decide +kernel), List.mem_of_getElem? (i := 606) (by decide +kernel)⟩
def lw_privs_1 : List (MethodName × Nat) := [(⟨"PairFinder", "appendFound", "(IF)V"⟩, 12), (⟨"java/lang/Throwable", "fillInStackTrace", "(I)Ljava/lang/Throwable;"⟩, 6), (⟨"PairFinder", "requirePadIsBox", "()V"⟩, 12), (⟨"PairFinder", "requireRoomFor", "(I)V"⟩, 12), (⟨"PairFinder", "addBodies", "(IFFFII)I"⟩, 12), (⟨"PairFinder$Box", "widenAxis", "(IF)V"⟩, 1), (⟨"PairFinder", "rowStaysGood", "(IFFF)Z"⟩, 12), (⟨"PairFinder", "requireThere", "(I)V"⟩, 12), (⟨"PairFinder", "shiftBody", "(LPairFinder$Body;FFF)Z"⟩, 12), (⟨"PairFinder", "arePair", "(II)Z"⟩, 12), (⟨"PairFinder", "reviewPairsOf", "(I)V"⟩, 12), (⟨"PairFinder", "requireFound", "(I)V"⟩, 12), (⟨"PairFinder", "pairsOf", "(I)I"⟩, 12), (⟨"PairFinder", "touchedBodies", "()I"⟩, 12), (⟨"PairFinderModel", "padCorner", "(IFFF)V"⟩, 17), (⟨"PairFinderModel", "goes", "(ZZ)Z"⟩, 17)]
theorem lw_r1 : ∀ q ∈ lw_privs_1, lw_okq q := List.forall_mem_cons.mpr ⟨lw_p0, List.forall_mem_cons.mpr ⟨lw_p1, List.forall_mem_cons.mpr ⟨lw_p2, List.forall_mem_cons.mpr ⟨lw_p3, List.forall_mem_cons.mpr ⟨lw_p4, List.forall_mem_cons.mpr ⟨lw_p5, List.forall_mem_cons.mpr ⟨lw_p6, List.forall_mem_cons.mpr ⟨lw_p7, List.forall_mem_cons.mpr ⟨lw_p8, List.forall_mem_cons.mpr ⟨lw_p9, List.forall_mem_cons.mpr ⟨lw_p10, List.forall_mem_cons.mpr ⟨lw_p11, List.forall_mem_cons.mpr ⟨lw_p12, List.forall_mem_cons.mpr ⟨lw_p13, List.forall_mem_cons.mpr ⟨lw_p14, List.forall_mem_cons.mpr ⟨lw_p15, fun _ h => absurd h List.not_mem_nil⟩⟩⟩⟩⟩⟩⟩⟩⟩⟩⟩⟩⟩⟩⟩⟩
theorem lw_p16 : lw_okq (⟨"PairFinderModel", "padIsBox", "()Z"⟩, 17) := ⟨⟨by decide +kernel, by decide +kernel⟩, List.mem_of_getElem? (i := 529) (by decide +kernel), List.mem_of_getElem? (i := 617) (by decide +kernel), List.mem_of_getElem? (i := 618) (by decide +kernel)⟩
theorem lw_p17 : lw_okq (⟨"PairFinderModel", "bodies", "()I"⟩, 17) := ⟨⟨by decide +kernel, by decide +kernel⟩, List.mem_of_getElem? (i := 529) (by decide +kernel), List.mem_of_getElem? (i := 621) (by decide +kernel), List.mem_of_getElem? (i := 622) (by decide +kernel)⟩
theorem lw_p18 : lw_okq (⟨"PairFinderModel", "takePad", "()V"⟩, 17) := ⟨⟨by decide +kernel, by decide +kernel⟩, List.mem_of_getElem? (i := 529) (by decide +kernel), List.mem_of_getElem? (i := 625) (by decide +kernel), List.mem_of_getElem? (i := 626) (by decide +kernel)⟩
theorem lw_p19 : lw_okq (⟨"PairFinderModel", "put", "(II)I"⟩, 17) := ⟨⟨by decide +kernel, by decide +kernel⟩, List.mem_of_getElem? (i := 529) (by decide +kernel), List.mem_of_getElem? (i := 629) (by decide +kernel), List.mem_of_getElem? (i := 630) (by decide +kernel)⟩
theorem lw_p20 : lw_okq (⟨"PairFinderModel", "least", "()I"⟩, 17) := ⟨⟨by decide +kernel, by decide +kernel⟩, List.mem_of_getElem? (i := 529) (by decide +kernel), List.mem_of_getElem? (i := 633) (by decide +kernel), List.mem_of_getElem? (i := 634) (by decide +kernel)⟩
theorem lw_p21 : lw_okq (⟨"PairFinderModel", "settle", "(IFFF)V"⟩, 17) := ⟨⟨by decide +kernel, by decide +kernel⟩, List.mem_of_getElem? (i := 529) (by decide +kernel), List.mem_of_getElem? (i := 637) (by decide +kernel), List.mem_of_getElem? (i := 638) (by decide +kernel)⟩
theorem lw_p22 : lw_okq (⟨"PairFinderModel", "widen", "(IIF)V"⟩, 17) := ⟨⟨by decide +kernel, by decide +kernel⟩, List.mem_of_getElem? (i := 529) (by decide +kernel), List.mem_of_getElem? (i := 641) (by decide +kernel), List.mem_of_getElem? (i := 642) (by decide +kernel)⟩
theorem lw_p23 : lw_okq (⟨"PairFinderModel", "goesOn", "(FFF)Z"⟩, 17) := ⟨⟨by decide +kernel, by decide +kernel⟩, List.mem_of_getElem? (i := 529) (by decide +kernel), List.mem_of_getElem? (i := 655) (by decide +kernel), List.mem_of_getElem? (i := 656) (by decide +kernel)⟩
theorem lw_p24 : lw_okq (⟨"PairFinderModel", "known", "(I)Z"⟩, 17) := ⟨⟨by decide +kernel, by decide +kernel⟩, List.mem_of_getElem? (i := 529) (by decide +kernel), List.mem_of_getElem? (i := 663) (by decide +kernel), List.mem_of_getElem? (i := 664) (by decide +kernel)⟩
theorem lw_p25 : lw_okq (⟨"PairFinderModel", "moves", "(IFFF)Z"⟩, 17) := ⟨⟨by decide +kernel, by decide +kernel⟩, List.mem_of_getElem? (i := 529) (by decide +kernel), List.mem_of_getElem? (i := 667) (by decide +kernel), List.mem_of_getElem? (i := 668) (by decide +kernel)⟩
theorem lw_p26 : lw_okq (⟨"PairFinderModel", "pairsOf", "(I)I"⟩, 17) := ⟨⟨by decide +kernel, by decide +kernel⟩, List.mem_of_getElem? (i := 529) (by decide +kernel), List.mem_of_getElem? (i := 683) (by decide +kernel), List.mem_of_getElem? (i := 684) (by decide +kernel)⟩
theorem lw_p27 : lw_okq (⟨"PairFinderModel", "isPair", "(II)Z"⟩, 17) := ⟨⟨by decide +kernel, by decide +kernel⟩, List.mem_of_getElem? (i := 529) (by decide +kernel), List.mem_of_getElem? (i := 687) (by decide +kernel), List.mem_of_getElem? (i := 688) (by decide +kernel)⟩
theorem lw_p28 : lw_okq (⟨"PairFinderModel", "look", "()V"⟩, 17) := ⟨⟨by decide +kernel, by decide +kernel⟩, List.mem_of_getElem? (i := 529) (by decide +kernel), List.mem_of_getElem? (i := 698) (by decide +kernel), List.mem_of_getElem? (i := 699) (by decide +kernel)⟩
theorem lw_p29 : lw_okq (⟨"PairFinderModel", "through", "(II)Z"⟩, 17) := ⟨⟨by decide +kernel, by decide +kernel⟩, List.mem_of_getElem? (i := 529) (by decide +kernel), List.mem_of_getElem? (i := 702) (by decide +kernel), List.mem_of_getElem? (i := 703) (by decide +kernel)⟩
theorem lw_p30 : lw_okq (⟨"PairFinderModel", "overlap", "(II)Z"⟩, 17) := ⟨⟨by decide +kernel, by decide +kernel⟩, List.mem_of_getElem? (i := 529) (by decide +kernel), List.mem_of_getElem? (i := 706) (by decide +kernel), List.mem_of_getElem? (i := 707) (by decide +kernel)⟩
theorem lw_p31 : lw_okq (⟨"PairFinderModel", "enters", "(I)F"⟩, 17) := ⟨⟨by decide +kernel, by decide +kernel⟩, List.mem_of_getElem? (i := 529) (by decide +kernel), List.mem_of_getElem? (i := 732) (by decide +kernel), List.mem_of_getElem? (i := 733) (by decide +kernel)⟩
def lw_privs_2 : List (MethodName × Nat) := [(⟨"PairFinderModel", "padIsBox", "()Z"⟩, 17), (⟨"PairFinderModel", "bodies", "()I"⟩, 17), (⟨"PairFinderModel", "takePad", "()V"⟩, 17), (⟨"PairFinderModel", "put", "(II)I"⟩, 17), (⟨"PairFinderModel", "least", "()I"⟩, 17), (⟨"PairFinderModel", "settle", "(IFFF)V"⟩, 17), (⟨"PairFinderModel", "widen", "(IIF)V"⟩, 17), (⟨"PairFinderModel", "goesOn", "(FFF)Z"⟩, 17), (⟨"PairFinderModel", "known", "(I)Z"⟩, 17), (⟨"PairFinderModel", "moves", "(IFFF)Z"⟩, 17), (⟨"PairFinderModel", "pairsOf", "(I)I"⟩, 17), (⟨"PairFinderModel", "isPair", "(II)Z"⟩, 17), (⟨"PairFinderModel", "look", "()V"⟩, 17), (⟨"PairFinderModel", "through", "(II)Z"⟩, 17), (⟨"PairFinderModel", "overlap", "(II)Z"⟩, 17), (⟨"PairFinderModel", "enters", "(I)F"⟩, 17)]
theorem lw_r2 : ∀ q ∈ lw_privs_2, lw_okq q := List.forall_mem_cons.mpr ⟨lw_p16, List.forall_mem_cons.mpr ⟨lw_p17, List.forall_mem_cons.mpr ⟨lw_p18, List.forall_mem_cons.mpr ⟨lw_p19, List.forall_mem_cons.mpr ⟨lw_p20, List.forall_mem_cons.mpr ⟨lw_p21, List.forall_mem_cons.mpr ⟨lw_p22, List.forall_mem_cons.mpr ⟨lw_p23, List.forall_mem_cons.mpr ⟨lw_p24, List.forall_mem_cons.mpr ⟨lw_p25, List.forall_mem_cons.mpr ⟨lw_p26, List.forall_mem_cons.mpr ⟨lw_p27, List.forall_mem_cons.mpr ⟨lw_p28, List.forall_mem_cons.mpr ⟨lw_p29, List.forall_mem_cons.mpr ⟨lw_p30, List.forall_mem_cons.mpr ⟨lw_p31, fun _ h => absurd h List.not_mem_nil⟩⟩⟩⟩⟩⟩⟩⟩⟩⟩⟩⟩⟩⟩⟩⟩
def lw_privs : List (MethodName × Nat) := lw_privs_1 ++ (lw_privs_2)
def lw_tbl : List Cond := k2_sels lw_privs ++ tables_1
theorem lw_privs_ok : ∀ q ∈ lw_privs, lw_okq q := by
  show ∀ q ∈ lw_privs_1 ++ (lw_privs_2), lw_okq q
  exact List.forall_mem_append.mpr ⟨lw_r1, lw_r2⟩
/-- the streams that the claim lets the run draw from -/
abbrev lw_cs : List Choice := [Jvm.Choice.named "NaN.bits"]
theorem lw_bits : nanBits ∈ lw_cs := by first | decide | exact List.mem_cons_self | simp [lw_cs, nanBits]
end
section
/-! ===== BEGIN words of one list among another's, by their places ===== -/
theorem goodIn_r {big : List Cond} (ws : List Cond) (ps : List Nat) (hp : ws = ps.filterMap (fun i => big[i]?)) (h : ws.all goodWord = true) : GoodIn big ws := by
  intro w hw
  have h1 := List.all_eq_true.mp h w hw
  rw [hp] at hw
  obtain ⟨i, -, hi⟩ := List.mem_filterMap.mp hw
  have hm : w ∈ big := by first | exact List.mem_of_getElem? hi | exact List.getElem?_mem hi
  exact ⟨hm, good_of_word h1⟩
theorem goodIn_app {big a b : List Cond} (ha : GoodIn big a) (hb : GoodIn big b) : GoodIn big (a ++ b) := fun w h => (List.mem_append.mp h).elim (ha w) (hb w)
theorem goodIn_ca {big a b : List Cond} {c : Cond} (ha : GoodIn big (c :: a)) (hb : GoodIn big b) : GoodIn big (c :: (a ++ b)) := fun w h => (List.mem_cons.mp h).elim (fun e => ha w (List.mem_cons.mpr (Or.inl e))) (fun h => (List.mem_append.mp h).elim (fun h => ha w (List.mem_cons.mpr (Or.inr h))) (hb w))
theorem goodIn_sub {big ws : List Cond} (hm : ∀ w ∈ ws, w ∈ big) (h : ws.all goodWord = true) : GoodIn big ws := fun w hw => ⟨hm w hw, good_of_word (List.all_eq_true.mp h w hw)⟩
/-! ===== END ===== -/

/-! ===== BEGIN exceptions that leave a method, and their catching by the caller (launches without stack traces) ===== -/
section VXA
/-! The laws vx_back, vx_callV, vx_callS, vx_callSW, vx_throw0, vx_throwS follow proofs of the library, with one case more: JvmDerived/Free/Laws.lean (Back.of_free), Shelf42/LK1.lean (callV, callS), Shelf/KitTraced.lean (throwNew0V, throwNewS). -/
/-- where a method has thrown q: the class by its name, the cell, what was written, the world -/
def vx_T (XC : String → State → State → Prop) (st : State) (q : Addr) (t : State) (mc ms : Nat) (free : Addr → Prop) : Prop :=
  ∃ (E : String) (ce : Cell) (L : List Loc), XC E st t ∧ t.heap[q]? = some ce ∧ ce.vm = .none ∧ st.vm.findClass E = some ce.cls ∧ st.WarmedH t.vm ∧ st.sameButNew ({ t with vm := st.vm } : State) L mc ms ∧ ∀ z ∈ L, free z.base
def vx_Q (Qc : Array Value → State → Outcome → State → Prop) (XC : String → State → State → Prop) (mc ms : Nat) (free : Addr → Prop) : Array Value → State → Outcome → State → Prop := fun a st o t =>
  (Qc a st o t ∧ ∃ L, FrameEnd st o t L mc ms ∧ ∀ q ∈ L, free q.base) ∨ ∃ q, o = .threw q ∧ vx_T XC st q t mc ms free
/-- a callee that returns or throws -/
def vx_Met (l : Launch) (y : MethodName) (ws : List Cond) (rm : Room) (Pc : Array Value → State → Prop) (Qc : Array Value → State → Outcome → State → Prop) (XC : String → State → State → Prop) (mc ms : Nat) (free : Addr → Prop) : Prop :=
  MetFree l y (headSpec ws rm) Pc (fun _ _ _ _ _ => True) (vx_Q Qc XC mc ms free)
def vx_Post (XC : String → State → State → Prop) (mc ms : Nat) (free : Addr → Prop) : Pt → Array Value → Addr → Pt → Prop := fun A a q B =>
  ∃ (g : JFrame) (mk : MethodId) (t : State) (L : List Loc) (E : String) (ce : Cell), B.U.heap = t.heap ∧ B.U.vm = t.vm ∧ XC E (A.U.calling g mk a) t ∧ t.heap[q]? = some ce ∧ ce.vm = .none ∧ A.U.vm.findClass E = some ce.cls ∧ B.locs = A.locs ++ L ∧ (∀ z ∈ L, free z.base) ∧ B.cells = A.cells + mc ∧ B.slots = A.slots + ms
def vx_Back (l : Launch) (R : Room) (p : Program) (e : Env) (below : List Frame) (s : State) (sargs : Array Value) (y : MethodName) (len W9 : Nat)
    (Pre : Pt → Array Value → Prop) (Post : Pt → Array Value → Option Value → Pt → Prop) (PostX : Pt → Array Value → Addr → Pt → Prop) : Prop :=
  ∀ (m : MethodId) (meth : Method) (c : Code) (A : Pt) (g : JFrame) (ig : Instr) (mk : MethodId) (a : Array Value),
    Stand p l e R s m sargs below meth c A.U A.locs A.cells A.slots → g.method = m → g.locals.size = c.maxLocals → decode c.code g.pc = .ok (ig, len) →
    2 * g.monitorRoom + (g.stack.map fun v => v.category).sum ≤ W9 → A.U.methodNamed? y = some mk → Pre A a →
    (∃ (v : Option Value) (B : Pt), Stand p l e R s m sargs below meth c B.U B.locs B.cells B.slots ∧ Post A a v B ∧
      Steps p.tables e below (doInvoke e (A.U.setTop g) [] mk a).1 (B.U.setTop { g with pc := g.pc + len, stack := v.toList ++ g.stack })) ∨
    (∃ (q : Addr) (B : Pt), Stand p l e R s m sargs below meth c B.U B.locs B.cells B.slots ∧ PostX A a q B ∧
      Steps p.tables e below (doInvoke e (A.U.setTop g) [] mk a).1 ((B.U.setTop g).pushFrame (.throwing q)))
section Payer
variable {l : Launch} {R : Room} {p : Program} {e : Env} {below : List Frame} {s : State} {sargs : Array Value} {y : MethodName} {len W9 : Nat}
theorem vx_back {ws : List Cond} {rm : Room} {Pc : Array Value → State → Prop} {Qc : Array Value → State → Outcome → State → Prop} {XC : String → State → State → Prop} {mc ms : Nat} {free : Addr → Prop} {bytes : ByteArray} {maxL : Nat} {ret : Option FieldType}
    (hM : vx_Met l y ws rm Pc Qc XC mc ms free) (hblind : FrameBlind Pc) (hrc : rm.cells = mc) (hrs : rm.slots = ms)
    (hframes : rm.frames + 1 ≤ R.frames) (hlocals : W9 + (maxL + 11) + rm.locals ≤ R.locals)
    (hws : ∀ w ∈ ws, ∀ a' U, s.WarmedH U.vm → w.before a' U = true) (hcode : Cond.code y bytes maxL ret ∈ ws) (hinit : ∀ a' U, s.WarmedH U.vm → (Cond.initialized y.cls).before a' U = true) :
    vx_Back l R p e below s sargs y len W9 (PreOf R mc ms Pc) (PostOf Qc mc ms free) (vx_Post XC mc ms free) := by
  intro m meth c A g ig mk a X hg hsize hdg hW hn hp
  have h1 : (headSpec ws rm).pre.before a A.U = true := atoms_intro fun w hw => hws w hw _ _ X.warmed
  have h2 : (Cond.code y bytes maxL ret).before a A.U = true := hws _ hcode _ _ X.warmed
  have h3 : (Cond.initialized y.cls).before a A.U = true := hinit _ _ X.warmed
  have h4 : A.cells + (headSpec ws rm).room.cells ≤ R.cells := by rw [show (headSpec ws rm).room.cells = mc from hrc]; exact hp.1
  have h5 : A.slots + (headSpec ws rm).room.slots ≤ R.slots := by rw [show (headSpec ws rm).room.slots = ms from hrs]; exact hp.2.1
  have hPc : Pc a (A.U.calling g mk a) := hblind _ _ _ _ hp.2.2
  obtain ⟨U, Ls, c0, s0⟩ := A
  dsimp only [Pt.U, Pt.locs, Pt.cells, Pt.slots] at h1 h2 h3 h4 h5 X hn hPc ⊢
  obtain ⟨methY, cY, hmY, hcY, -, hlY, -, -, -, -⟩ := Cond.code_spec hn h2
  obtain ⟨kY, hkY, -⟩ := className_of_methodNamed hn
  have hinitY : kY.init = .initialized := Cond.initialized_spec (findClass_of_methodNamed hn) hkY h3
  have h : At U g.method c below := by rw [hg]; exact X.here
  have hlocals9 : W9 + (maxL + 11) + (headSpec ws rm).room.locals ≤ R.locals := hlocals
  have happ : (headSpec ws rm).appliesLoose y e.platform (U.calling g mk a) = true :=
    Spec.appliesLoose_calling (g := g) h hdg hn hkY hinitY
      (X.room_calling (g := g) (R' := (headSpec ws rm).room) hsize hmY hcY hframes (by rw [hlY]; omega) h4 h5) h1
  obtain ⟨mid, hmid⟩ := h.above
  have hfr : (U.setTop g).frames = (.java g :: mid) ++ below := by rw [State.frames_setTop' g h.top, hmid]; rfl
  obtain ⟨o, s₂, hsteps, -, hend, hq⟩ := Steps.callFree hM p X.admits X.cas X.clock (acts := []) hfr happ hPc trivial
  have hq' : vx_Q Qc XC mc ms free a (U.calling g mk a) o s₂ := hq
  rw [State.frames_setTop' g h.top] at hend
  obtain ⟨g₀, hg0⟩ := Option.isSome_iff_exists.mp h.top
  obtain ⟨r, hr⟩ := State.topJava?_eq_some.mp hg0
  have hr' : (({ U with heap := s₂.heap, slotsUsed := s₂.slotsUsed } : State).setVm s₂.vm).frames = .java g₀ :: r := hr
  rcases hq' with ⟨hqc, L, hfe, hL⟩ | ⟨q, rfl, E, ce, L, hx, hce, hcv, hcl, hW₂, hsm, hL⟩
  · obtain ⟨⟨v, rfl⟩, hW₂, e2, q2, q3, q4, q5, q6⟩ := id hfe
    have e3 : s₂ = ({ (U.calling g mk a).setFrames s₂.frames with heap := s₂.heap, slotsUsed := s₂.slotsUsed } : State).setVm s₂.vm := by
      have : s₂ = ({ s₂ with vm := (U.calling g mk a).vm } : State).setVm s₂.vm := rfl
      rw [e2] at this
      exact this
    obtain ⟨c₂, i₂, len₂, hc₂, hd₂, hf₂⟩ := hend
    have hW' : U.WarmedH s₂.vm := hW₂
    have hcc : c₂ = c := by
      have h1 : s₂.code? g.method = U.code? g.method := by
        rw [State.code?_eq, State.code?_eq, hW'.alike.method?]
      exact Option.some.inj (hc₂.symm.trans (h1.trans h.code))
    subst hcc
    have hlen : len₂ = len := by rw [hdg] at hd₂; cases hd₂; rfl
    subst hlen
    have hs₂ : s₂ = (({ U with heap := s₂.heap, slotsUsed := s₂.slotsUsed } : State).setVm s₂.vm).setTop { g with pc := g.pc + len₂, stack := v.toList ++ g.stack } := by
      refine e3.trans ?_
      rw [hf₂, State.calling_eq h.top, State.setFrames_setFrames, State.setTop_of_frames _ hr', hr]
      rfl
    have hsame : U.sameButNew ({ U with heap := s₂.heap, slotsUsed := s₂.slotsUsed } : State) L mc ms := by
      refine ⟨?_, q2, q3, q4, q5, q6⟩
      obtain ⟨t, ht, -⟩ := State.frames_cons hr
      show ({ U with heap := s₂.heap, slotsUsed := s₂.slotsUsed } : State) = { U.setFrames U.frames with heap := s₂.heap, slotsUsed := s₂.slotsUsed }
      rw [State.setFrames_self ht]
    subst hg
    refine Or.inl ⟨v, ⟨(({ U with heap := s₂.heap, slotsUsed := s₂.slotsUsed } : State).setVm s₂.vm), Ls ++ L, c0 + mc, s0 + ms⟩,
      ⟨X.admits, X.cas, X.clock, X.frames, X.room, X.hears, X.method, X.code, (X.here.setHeapUsed s₂.heap s₂.slotsUsed).setVm hW'.alike, X.tail, State.WarmedH.trans X.warmed hW', X.limits, X.bytes, X.same.trans (hsame.setVm s.vm)⟩,
      ⟨g, mk, s₂, L, rfl, rfl, hqc, rfl, hL, rfl, rfl⟩, ?_⟩
    show Steps p.tables e below _ ((({ U with heap := s₂.heap, slotsUsed := s₂.slotsUsed } : State).setVm s₂.vm).setTop { g with pc := g.pc + len₂, stack := v.toList ++ g.stack })
    rw [← hs₂]
    exact hsteps
  · obtain ⟨e2, q2, q3, q4, q5, q6⟩ := id hsm
    have e3 : s₂ = ({ (U.calling g mk a).setFrames s₂.frames with heap := s₂.heap, slotsUsed := s₂.slotsUsed } : State).setVm s₂.vm := by
      have : s₂ = ({ s₂ with vm := (U.calling g mk a).vm } : State).setVm s₂.vm := rfl
      rw [e2] at this
      exact this
    have hf₂ : s₂.frames = .throwing q :: .java g :: U.frames.tail := hend
    have hW' : U.WarmedH s₂.vm := hW₂
    have hs₂ : s₂ = ((({ U with heap := s₂.heap, slotsUsed := s₂.slotsUsed } : State).setVm s₂.vm).setTop g).pushFrame (.throwing q) := by
      refine e3.trans ?_
      rw [hf₂, State.calling_eq h.top, State.setFrames_setFrames, State.pushFrame, State.frames_setTop _ hr', State.setTop_of_frames _ hr', State.setFrames_setFrames, hr]
      rfl
    have hsame : U.sameButNew ({ U with heap := s₂.heap, slotsUsed := s₂.slotsUsed } : State) L mc ms := by
      refine ⟨?_, q2, q3, q4, q5, q6⟩
      obtain ⟨t, ht, -⟩ := State.frames_cons hr
      show ({ U with heap := s₂.heap, slotsUsed := s₂.slotsUsed } : State) = { U.setFrames U.frames with heap := s₂.heap, slotsUsed := s₂.slotsUsed }
      rw [State.setFrames_self ht]
    subst hg
    refine Or.inr ⟨q, ⟨(({ U with heap := s₂.heap, slotsUsed := s₂.slotsUsed } : State).setVm s₂.vm), Ls ++ L, c0 + mc, s0 + ms⟩,
      ⟨X.admits, X.cas, X.clock, X.frames, X.room, X.hears, X.method, X.code, (X.here.setHeapUsed s₂.heap s₂.slotsUsed).setVm hW'.alike, X.tail, State.WarmedH.trans X.warmed hW', X.limits, X.bytes, X.same.trans (hsame.setVm s.vm)⟩,
      ⟨g, mk, s₂, L, E, ce, rfl, rfl, hx, hce, hcv, hcl, rfl, hL, rfl, rfl⟩, ?_⟩
    show Steps p.tables e below _ (((({ U with heap := s₂.heap, slotsUsed := s₂.slotsUsed } : State).setVm s₂.vm).setTop g).pushFrame (.throwing q))
    rw [← hs₂]
    exact hsteps
end Payer
section Calls
variable {p : Program} {l : Launch} {e : Env} {R : Room} {s : State} {m : MethodId} {args : Array Value} {below : List Frame} {meth : Method} {c : Code} {T : State} {locs : List Loc} {cells slots : Nat}
theorem vx_callV (X : Stand p l e R s m args below meth c T locs cells slots) (hexec : p.tables.exec = Jvm.exec) {own C : String} {index : Nat} {y : MethodName} {bytes : ByteArray} {maxL : Nat} {ret : Option FieldType}
    (hown : s.vm.findClass own = some m.cls) (hlink : (Cond.methodLink own index y).before args s = true) (hinst : (Cond.instanceMethod y).before args s = true) (hsel : (Cond.selects C y y).before args s = true)
    (hcode : (Cond.code y bytes maxL ret).before args s = true) (hy : y.cls ≠ "java/lang/invoke/MethodHandle" ∧ y.cls ≠ "java/lang/invoke/VarHandle")
    {W9 : Nat} {Pre : Pt → Array Value → Prop} {Post : Pt → Array Value → Option Value → Pt → Prop} {PostX : Pt → Array Value → Addr → Pt → Prop} (hK : vx_Back l R p e below s args y 3 W9 Pre Post PostX)
    {b : Addr} {cellB : Cell} (hcell : T.heap[b]? = some cellB) (hobj : cellB.vm.isStatics = false) (hcls : s.vm.findClass C = some cellB.cls)
    {g : JFrame} (hg : g.method = m) (hsize : g.locals.size = c.maxLocals) {argsL rest : List Value} (hlen : ∀ sig, parseMethodDescriptor y.desc = some sig → argsL.length = sig.parameters.length)
    (hstack : g.stack = argsL.reverse ++ .ref b :: rest) (hW : 2 * g.monitorRoom + (rest.map fun v => v.category).sum ≤ W9) (hdg : decode c.code g.pc = .ok (.invokevirtual index, 3))
    (hpre : ∀ vm₁, s.WarmedH vm₁ → Pre ⟨T.setVm vm₁, locs, cells, slots⟩ (Value.ref b :: argsL).toArray) :
    (∃ (v : Option Value) (vm₁ : Vm) (B : Pt), s.WarmedH vm₁ ∧ Stand p l e R s m args below meth c B.U B.locs B.cells B.slots ∧ Post ⟨T.setVm vm₁, locs, cells, slots⟩ (Value.ref b :: argsL).toArray v B ∧
      ∀ target, Steps p.tables e below (B.U.setTop { g with pc := g.pc + 3, stack := v.toList ++ rest }) target → Steps p.tables e below (T.setTop g) target) ∨
    (∃ (q : Addr) (vm₁ : Vm) (B : Pt), s.WarmedH vm₁ ∧ Stand p l e R s m args below meth c B.U B.locs B.cells B.slots ∧ PostX ⟨T.setVm vm₁, locs, cells, slots⟩ (Value.ref b :: argsL).toArray q B ∧
      Steps p.tables e below (T.setTop g) ((B.U.setTop { g with stack := rest }).pushFrame (.throwing q))) := by
  obtain ⟨mk, methM, hnamed, hmethM, hstM, habM⟩ := Cond.instanceMethod_spec hinst
  obtain ⟨methM', cM, hmethM', -, -, -, -, -, -, hsigM⟩ := Cond.code_spec hnamed hcode
  cases hmethM.symm.trans hmethM'
  obtain ⟨c2, r2, m2, q1, q2, q3, q4, kP, hkP, hkPi⟩ := Cond.selects_spec hsel
  cases hcls.symm.trans q1
  cases (State.methodFound?_of_named hnamed hy).symm.trans q2
  cases hnamed.symm.trans q3
  have hselP : selectMethod e.platform s.vm cellB.cls mk = .method mk := by rw [Launch.admits_selectMethod X.admits]; exact q4
  obtain ⟨vm₁, X₁, hstep₁⟩ := X.invokevirtual hexec hown hlink hnamed hmethM hstM hkP hkPi hy (a := b) (cell := cellB) hcell
    (fun z h => by rw [h] at hobj; cases hobj) hselP hmethM habM hkP hkPi (g := g) hg (argsL := argsL) (rest := rest) (hlen _ hsigM) hstack hdg
  rcases hK m meth c ⟨T.setVm vm₁, locs, cells, slots⟩ { g with stack := rest } (.invokevirtual index) mk (Value.ref b :: argsL).toArray X₁ hg hsize hdg hW (X₁.named hnamed) (hpre vm₁ X₁.warmed) with ⟨v, B, X', hpost, hsteps⟩ | ⟨q, B, X', hpost, hsteps⟩
  · exact Or.inl ⟨v, vm₁, B, X₁.warmed, X', hpost, fun target h => hstep₁ _ fun acts => by rw [doInvoke_state]; exact hsteps.trans h⟩
  · exact Or.inr ⟨q, vm₁, B, X₁.warmed, X', hpost, hstep₁ _ fun acts => by rw [doInvoke_state]; exact hsteps⟩
theorem vx_callS (X : Stand p l e R s m args below meth c T locs cells slots) (hexec : p.tables.exec = Jvm.exec) {own : String} {index : Nat} {y : MethodName} {bytes : ByteArray} {maxL : Nat} {ret : Option FieldType}
    (hown : s.vm.findClass own = some m.cls) (hlink : (Cond.methodLink own index y).before args s = true) (hstat : (Cond.static y).before args s = true) (hinit : (Cond.initialized y.cls).before args s = true)
    (hcode : (Cond.code y bytes maxL ret).before args s = true) (hy : y.cls ≠ "java/lang/invoke/MethodHandle" ∧ y.cls ≠ "java/lang/invoke/VarHandle")
    {W9 : Nat} {Pre : Pt → Array Value → Prop} {Post : Pt → Array Value → Option Value → Pt → Prop} {PostX : Pt → Array Value → Addr → Pt → Prop} (hK : vx_Back l R p e below s args y 3 W9 Pre Post PostX)
    {g : JFrame} (hg : g.method = m) (hsize : g.locals.size = c.maxLocals) {argsL rest : List Value} (hlen : ∀ sig, parseMethodDescriptor y.desc = some sig → argsL.length = sig.parameters.length)
    (hstack : g.stack = argsL.reverse ++ rest) (hW : 2 * g.monitorRoom + (rest.map fun v => v.category).sum ≤ W9) (hdg : decode c.code g.pc = .ok (.invokestatic index, 3))
    (hpre : ∀ vm₁, s.WarmedH vm₁ → Pre ⟨T.setVm vm₁, locs, cells, slots⟩ argsL.toArray) :
    (∃ (v : Option Value) (vm₁ : Vm) (B : Pt), s.WarmedH vm₁ ∧ Stand p l e R s m args below meth c B.U B.locs B.cells B.slots ∧ Post ⟨T.setVm vm₁, locs, cells, slots⟩ argsL.toArray v B ∧
      ∀ target, Steps p.tables e below (B.U.setTop { g with pc := g.pc + 3, stack := v.toList ++ rest }) target → Steps p.tables e below (T.setTop g) target) ∨
    (∃ (q : Addr) (vm₁ : Vm) (B : Pt), s.WarmedH vm₁ ∧ Stand p l e R s m args below meth c B.U B.locs B.cells B.slots ∧ PostX ⟨T.setVm vm₁, locs, cells, slots⟩ argsL.toArray q B ∧
      Steps p.tables e below (T.setTop g) ((B.U.setTop { g with stack := rest }).pushFrame (.throwing q))) := by
  obtain ⟨mk, hnamed⟩ := Cond.code_named hcode
  obtain ⟨methM, cM, hmethM, -, -, -, -, -, -, hsigM⟩ := Cond.code_spec hnamed hcode
  have hstatic : methM.isStatic = true := Cond.static_spec hnamed hmethM hstat
  obtain ⟨kP, hkP, -⟩ := className_of_methodNamed hnamed
  have hinitP : kP.init = .initialized := Cond.initialized_spec (findClass_of_methodNamed hnamed) hkP hinit
  obtain ⟨vm₁, X₁, hstep₁⟩ := X.invokestatic hexec hown hlink hnamed hmethM hstatic hkP hinitP hy (g := g) hg (argsL := argsL) (rest := rest) (hlen _ hsigM) hstack hdg
  rcases hK m meth c ⟨T.setVm vm₁, locs, cells, slots⟩ { g with stack := rest } (.invokestatic index) mk argsL.toArray X₁ hg hsize hdg hW (X₁.named hnamed) (hpre vm₁ X₁.warmed) with ⟨v, B, X', hpost, hsteps⟩ | ⟨q, B, X', hpost, hsteps⟩
  · exact Or.inl ⟨v, vm₁, B, X₁.warmed, X', hpost, fun target h => hstep₁ _ fun acts => by rw [doInvoke_state]; exact hsteps.trans h⟩
  · exact Or.inr ⟨q, vm₁, B, X₁.warmed, X', hpost, hstep₁ _ fun acts => by rw [doInvoke_state]; exact hsteps⟩
end Calls
theorem vx_cls {s : State} {T : State} {vm₁ : Vm} {E : String} {k : ClassId} (hW : s.WarmedH vm₁) (h : (T.setVm vm₁).vm.findClass E = some k) : s.vm.findClass E = some k := by
  have h1 : vm₁.findClass E = some k := h
  rw [hW.alike.findClass] at h1
  exact h1
/-- the method's frame g, with q thrown over it -/
def vx_W (p : Program) (l : Launch) (e : Env) (R : Room) (s : State) (m : MethodId) (args : Array Value) (below : List Frame) (meth : Method) (c : Code) (H : Heap) (locs : List Loc) (cells slots : Nat) (Q : State → Prop) (g : JFrame) (q : Addr) : Prop :=
  ∀ T : State, T.heap = H → Stand p l e R s m args below meth c T locs cells slots → ∃ t, Steps p.tables e below ((T.setTop g).pushFrame (.throwing q)) t ∧ Q t
def vx_Run (p : Program) (l : Launch) (e : Env) (R : Room) (s : State) (m : MethodId) (args : Array Value) (below : List Frame) (meth : Method) (c : Code) (H : Heap) (locs : List Loc) (cells slots mc ms : Nat) (g : JFrame) (rest : List Value) (Qa : State → Outcome → State → Prop) (XC : String → State → State → Prop) (free : Addr → Prop) : Prop :=
  ∀ T : State, T.heap = H → Stand p l e R s m args below meth c T locs cells slots →
    (∃ (v : Option Value) (st₀ t T' : State) (L : List Loc), st₀.heap = H ∧ Stand p l e R s m args below meth c T' (locs ++ L) (cells + mc) (slots + ms) ∧ (∀ q ∈ L, free q.base) ∧ T'.heap = t.heap ∧ T'.vm = t.vm ∧ Qa st₀ (.returned v) t ∧
      Goes p e below T g T' { g with pc := g.pc + 3, stack := v.toList ++ rest }) ∨
    (∃ (q : Addr) (st₀ t T' : State) (L : List Loc) (E : String) (ce : Cell), st₀.heap = H ∧ Stand p l e R s m args below meth c T' (locs ++ L) (cells + mc) (slots + ms) ∧ (∀ z ∈ L, free z.base) ∧ T'.heap = t.heap ∧ T'.vm = t.vm ∧ XC E st₀ t ∧ t.heap[q]? = some ce ∧ ce.vm = .none ∧ s.vm.findClass E = some ce.cls ∧
      Steps p.tables e below (T.setTop g) ((T'.setTop { g with stack := rest }).pushFrame (.throwing q)))
def vx_X {S : Type} (px : S → Prop) (B : String → S → State → Prop) (A : Nat → Prop) : String → State → State → Prop := fun E st t => ∃ u : S, px u ∧ B E u t ∧ va_F A st t
section Runs
variable {p : Program} {l : Launch} {e : Env} {R : Room} {s : State} {m : MethodId} {args : Array Value} {below : List Frame} {meth : Method} {c : Code} {H : Heap} {locs : List Loc} {cells slots : Nat}
variable {y : MethodName} {bytes cc : ByteArray} {maxL nL mc ms n index : Nat} {ret : Option FieldType} {ws : List Cond} {rm : Room} {Pc : Array Value → State → Prop} {Qc : Array Value → State → Outcome → State → Prop} {XC : String → State → State → Prop} {free : Addr → Prop} {Ts : List Cond} {own C : String} {b : Addr} {As rest : List Value} {g : JFrame}
theorem vx_callBack (cb : CallB R s args own index y bytes maxL ret ws rm mc ms n) (hM : vx_Met l y ws rm Pc Qc XC mc ms free) (hbl : FrameBlind Pc) : vx_Back l R p e below s args y 3 8 (PreOf R mc ms Pc) (PostOf Qc mc ms free) (vx_Post XC mc ms free) := by
  obtain ⟨hrc, hrs, hfr, hlo, hws, hcw, -, hini, -⟩ := cb
  exact vx_back (bytes := bytes) (maxL := maxL) (ret := ret) hM hbl hrc hrs hfr hlo hws hcw (fun a' U hW => word_at hW (Or.inl (by first | rfl | simp [Cond.onTables, Cond.keeps, Cond.steady])) hini)
theorem vx_runV (S : CallFix p m c cc nL s args Ts own) (hM : vx_Met l y ws rm Pc Qc XC mc ms free) (cw : CallW R s args own C index y bytes maxL ret ws rm mc ms n) (hp : PreV s H C b Pc As)
    (hg : g.method = m) (hn : As.length = n) (hsize : g.locals.size = nL) (hstack : g.stack = As.reverse ++ .ref b :: rest) (hW : 2 * g.monitorRoom + (rest.map fun v => v.category).sum ≤ 8) (hdg : decode cc g.pc = .ok (.invokevirtual index, 3)) (hf : cells + mc ≤ R.cells ∧ slots + ms ≤ R.slots) :
    vx_Run p l e R s m args below meth c H locs cells slots mc ms g rest (Qc (Value.ref b :: As).toArray) XC free := by
  have hK : vx_Back l R p e below s args y 3 8 (PreOf R mc ms Pc) (PostOf Qc mc ms free) (vx_Post XC mc ms free) := vx_callBack cw.1 hM hp.1
  obtain ⟨⟨-, -, -, -, -, -, hcode, -, hy, hlen, hl⟩, hin, hse⟩ := cw
  obtain ⟨hx, hb, hml, ho, -⟩ := S
  obtain ⟨-, ⟨cellB, hcB, hoB, hclB⟩, hPc⟩ := hp
  intro T hT X
  rcases vx_callV X hx (C := C) (bytes := bytes) (maxL := maxL) (ret := ret) ho hl hin hse hcode hy hK (by rw [hT]; exact hcB) hoB hclB hg (hsize.trans hml.symm) (argsL := As) (rest := rest) (fun sig h => hn.trans (hlen sig h)) hstack hW (by rw [hb]; exact hdg)
    (fun vm₁ hW₁ => ⟨hf.1, hf.2, hPc (T.setVm vm₁) hT hW₁⟩) with ⟨v, vm₁, ⟨U', l2, c2, s2⟩, hW₁, X', ⟨g', mk, t, L, e1, e2, hq, h1, hL, h2, h3⟩, st⟩ | ⟨q, vm₁, ⟨U', l2, c2, s2⟩, hW₁, X', ⟨g', mk, t, L, E, ce, e1, e2, hq, hce, hcv, hcl, h1, hL, h2, h3⟩, st⟩
  · dsimp only [Pt.U, Pt.locs, Pt.cells, Pt.slots] at X' e1 e2 h1 h2 h3 st
    subst h1; subst h2; subst h3
    exact Or.inl ⟨v, (T.setVm vm₁).calling g' mk (Value.ref b :: As).toArray, t, U', L, hT, X', hL, e1, e2, hq, st⟩
  · dsimp only [Pt.U, Pt.locs, Pt.cells, Pt.slots] at X' e1 e2 h1 h2 h3 st hcl
    subst h1; subst h2; subst h3
    exact Or.inr ⟨q, (T.setVm vm₁).calling g' mk (Value.ref b :: As).toArray, t, U', L, E, ce, hT, X', hL, e1, e2, hq, hce, hcv, vx_cls hW₁ hcl, st⟩
theorem vx_runS (S : CallFix p m c cc nL s args Ts own) (hM : vx_Met l y ws rm Pc Qc XC mc ms free) (cw : CallB R s args own index y bytes maxL ret ws rm mc ms n ∧ (Cond.static y).before args s = true) (hp : PreS s H Pc As)
    (hg : g.method = m) (hn : As.length = n) (hsize : g.locals.size = nL) (hstack : g.stack = As.reverse ++ rest) (hW : 2 * g.monitorRoom + (rest.map fun v => v.category).sum ≤ 8) (hdg : decode cc g.pc = .ok (.invokestatic index, 3)) (hf : cells + mc ≤ R.cells ∧ slots + ms ≤ R.slots) :
    vx_Run p l e R s m args below meth c H locs cells slots mc ms g rest (Qc As.toArray) XC free := by
  have hK : vx_Back l R p e below s args y 3 8 (PreOf R mc ms Pc) (PostOf Qc mc ms free) (vx_Post XC mc ms free) := vx_callBack cw.1 hM hp.1
  obtain ⟨⟨-, -, -, -, -, -, hcode, hini, hy, hlen, hl⟩, hstt⟩ := cw
  obtain ⟨hx, hb, hml, ho, -⟩ := S
  intro T hT X
  rcases vx_callS X hx (bytes := bytes) (maxL := maxL) (ret := ret) ho hl hstt hini hcode hy hK hg (hsize.trans hml.symm) (argsL := As) (rest := rest) (fun sig h => hn.trans (hlen sig h)) hstack hW (by rw [hb]; exact hdg)
    (fun vm₁ hW₁ => ⟨hf.1, hf.2, hp.2 (T.setVm vm₁) hT hW₁⟩) with ⟨v, vm₁, ⟨U', l2, c2, s2⟩, hW₁, X', ⟨g', mk, t, L, e1, e2, hq, h1, hL, h2, h3⟩, st⟩ | ⟨q, vm₁, ⟨U', l2, c2, s2⟩, hW₁, X', ⟨g', mk, t, L, E, ce, e1, e2, hq, hce, hcv, hcl, h1, hL, h2, h3⟩, st⟩
  · dsimp only [Pt.U, Pt.locs, Pt.cells, Pt.slots] at X' e1 e2 h1 h2 h3 st
    subst h1; subst h2; subst h3
    exact Or.inl ⟨v, (T.setVm vm₁).calling g' mk As.toArray, t, U', L, hT, X', hL, e1, e2, hq, st⟩
  · dsimp only [Pt.U, Pt.locs, Pt.cells, Pt.slots] at X' e1 e2 h1 h2 h3 st hcl
    subst h1; subst h2; subst h3
    exact Or.inr ⟨q, (T.setVm vm₁).calling g' mk As.toArray, t, U', L, E, ce, hT, X', hL, e1, e2, hq, hce, hcv, vx_cls hW₁ hcl, st⟩
end Runs
section Rows
variable {p : Program} {l : Launch} {e : Env} {R : Room} {s : State} {m : MethodId} {args : Array Value} {below : List Frame} {meth : Method} {c : Code} {H : Heap} {locs : List Loc} {cells slots : Nat} {Q : State → Prop}
variable {mc ms : Nat} {free : Addr → Prop} {A0 A1 : Nat → Prop} {H0 : Heap} {a : Array Value} {pc : Nat} {ls : Array Slot} {st0 rest : List Value}
theorem vx_keep {st₀ t T' : State} {L : List Loc} (h0 : st₀.heap = H) (e1 : T'.heap = t.heap) (hS : va_S A0 H0 H locs) (hA : ∀ q, q < H.size → A1 q → A0 q) (hf : ∀ q, free q → A0 q) (hL : ∀ q ∈ L, free q.base) (hF : va_F A1 st₀ t) :
    H.size ≤ T'.heap.size ∧ (∀ q : Nat, q < H.size → ¬ A1 q → T'.heap[q]? = H[q]?) ∧ va_S A0 H0 T'.heap (locs ++ L) := by
  obtain ⟨hz, hk⟩ := hF
  rw [h0] at hz hk
  exact ⟨by rw [e1]; exact hz, fun q h1 h2 => by rw [e1]; exact hk q h1 h2,
    ⟨Nat.le_trans hS.1 (by rw [e1]; exact hz), fun q h1 h2 => by rw [e1, hk q (Nat.lt_of_lt_of_le h1 hS.1) (fun z => h2 (hA q (Nat.lt_of_lt_of_le h1 hS.1) z))]; exact hS.2.1 q h1 h2, fun q hq => by
      rcases List.mem_append.mp hq with h | h
      · exact hS.2.2 q h
      · exact hf _ (hL q h)⟩⟩
theorem vx_calli {S SX : Type} {post : Int32 → S → Prop} {px : SX → Prop} {B : S → State → Prop} {BX : String → SX → State → Prop} {AX : Nat → Prop} (hr : vx_Run p l e R s m args below meth c H locs cells slots mc ms (F0 m pc ls st0) rest (va_Qi post B A1 a) (vx_X px BX AX) free) (hS : va_S A0 H0 H locs) (hA : ∀ q, q < H.size → A1 q → A0 q) (hf : ∀ q, free q → A0 q) (hAX : ∀ q, q < H.size → AX q → A0 q)
    (kx : ∀ (E : String) (ce : Cell) (q9 : Addr) (u : SX) (t : State) (H1 : Heap) (locs1 : List Loc), t.heap = H1 → s.vm.Alike t.vm → px u → BX E u t → H.size ≤ H1.size → (∀ q : Nat, q < H.size → ¬ AX q → H1[q]? = H[q]?) → va_S A0 H0 H1 locs1 → H1[q9]? = some ce → ce.vm = .none → s.vm.findClass E = some ce.cls → vx_W p l e R s m args below meth c H1 locs1 (cells + mc) (slots + ms) Q (F0 m pc ls rest) q9)
    (kk : ∀ (r : Int32) (u : S) (t : State) (H1 : Heap) (locs1 : List Loc), t.heap = H1 → s.vm.Alike t.vm → post r u → B u t → H.size ≤ H1.size → (∀ q : Nat, q < H.size → ¬ A1 q → H1[q]? = H[q]?) → va_S A0 H0 H1 locs1 → W p l e R s m args below meth c H1 locs1 (cells + mc) (slots + ms) Q (F0 m (pc + 3) ls (.int r :: rest))) : W p l e R s m args below meth c H locs cells slots Q (F0 m pc ls st0) := by
  intro T hT X
  rcases hr T hT X with ⟨v, st₀, t, T', L, h0, X', hL, e1, e2, ⟨⟨r, u, hv, hp, hb⟩, hF⟩, st⟩ | ⟨q, st₀, t, T', L, E, ce, h0, X', hL, e1, e2, ⟨u, hp, hb, hF⟩, hce, hcv, hcl, st⟩
  · cases hv
    obtain ⟨k1, k2, k3⟩ := vx_keep h0 e1 hS hA hf hL hF
    obtain ⟨t2, a1, b1⟩ := kk r u t T'.heap (locs ++ L) e1.symm (by rw [← e2]; exact X'.warmed.alike) hp hb k1 k2 k3 T' rfl X'
    exact ⟨t2, st t2 a1, b1⟩
  · obtain ⟨k1, k2, k3⟩ := vx_keep h0 e1 hS hAX hf hL hF
    obtain ⟨t2, a1, b1⟩ := kx E ce q u t T'.heap (locs ++ L) e1.symm (by rw [← e2]; exact X'.warmed.alike) hp hb k1 k2 k3 (by rw [e1]; exact hce) hcv hcl T' rfl X'
    exact ⟨t2, st.trans a1, b1⟩
theorem vx_calll {S SX : Type} {post : Int64 → S → Prop} {px : SX → Prop} {B : S → State → Prop} {BX : String → SX → State → Prop} {AX : Nat → Prop} (hr : vx_Run p l e R s m args below meth c H locs cells slots mc ms (F0 m pc ls st0) rest (va_Ql post B A1 a) (vx_X px BX AX) free) (hS : va_S A0 H0 H locs) (hA : ∀ q, q < H.size → A1 q → A0 q) (hf : ∀ q, free q → A0 q) (hAX : ∀ q, q < H.size → AX q → A0 q)
    (kx : ∀ (E : String) (ce : Cell) (q9 : Addr) (u : SX) (t : State) (H1 : Heap) (locs1 : List Loc), t.heap = H1 → s.vm.Alike t.vm → px u → BX E u t → H.size ≤ H1.size → (∀ q : Nat, q < H.size → ¬ AX q → H1[q]? = H[q]?) → va_S A0 H0 H1 locs1 → H1[q9]? = some ce → ce.vm = .none → s.vm.findClass E = some ce.cls → vx_W p l e R s m args below meth c H1 locs1 (cells + mc) (slots + ms) Q (F0 m pc ls rest) q9)
    (kk : ∀ (r : Int64) (u : S) (t : State) (H1 : Heap) (locs1 : List Loc), t.heap = H1 → s.vm.Alike t.vm → post r u → B u t → H.size ≤ H1.size → (∀ q : Nat, q < H.size → ¬ A1 q → H1[q]? = H[q]?) → va_S A0 H0 H1 locs1 → W p l e R s m args below meth c H1 locs1 (cells + mc) (slots + ms) Q (F0 m (pc + 3) ls (.long r :: rest))) : W p l e R s m args below meth c H locs cells slots Q (F0 m pc ls st0) := by
  intro T hT X
  rcases hr T hT X with ⟨v, st₀, t, T', L, h0, X', hL, e1, e2, ⟨⟨r, u, hv, hp, hb⟩, hF⟩, st⟩ | ⟨q, st₀, t, T', L, E, ce, h0, X', hL, e1, e2, ⟨u, hp, hb, hF⟩, hce, hcv, hcl, st⟩
  · cases hv
    obtain ⟨k1, k2, k3⟩ := vx_keep h0 e1 hS hA hf hL hF
    obtain ⟨t2, a1, b1⟩ := kk r u t T'.heap (locs ++ L) e1.symm (by rw [← e2]; exact X'.warmed.alike) hp hb k1 k2 k3 T' rfl X'
    exact ⟨t2, st t2 a1, b1⟩
  · obtain ⟨k1, k2, k3⟩ := vx_keep h0 e1 hS hAX hf hL hF
    obtain ⟨t2, a1, b1⟩ := kx E ce q u t T'.heap (locs ++ L) e1.symm (by rw [← e2]; exact X'.warmed.alike) hp hb k1 k2 k3 (by rw [e1]; exact hce) hcv hcl T' rfl X'
    exact ⟨t2, st.trans a1, b1⟩
theorem vx_callf {S SX : Type} {post : UInt32 → S → Prop} {px : SX → Prop} {B : S → State → Prop} {BX : String → SX → State → Prop} {AX : Nat → Prop} (hr : vx_Run p l e R s m args below meth c H locs cells slots mc ms (F0 m pc ls st0) rest (va_Qf post B A1 a) (vx_X px BX AX) free) (hS : va_S A0 H0 H locs) (hA : ∀ q, q < H.size → A1 q → A0 q) (hf : ∀ q, free q → A0 q) (hAX : ∀ q, q < H.size → AX q → A0 q)
    (kx : ∀ (E : String) (ce : Cell) (q9 : Addr) (u : SX) (t : State) (H1 : Heap) (locs1 : List Loc), t.heap = H1 → s.vm.Alike t.vm → px u → BX E u t → H.size ≤ H1.size → (∀ q : Nat, q < H.size → ¬ AX q → H1[q]? = H[q]?) → va_S A0 H0 H1 locs1 → H1[q9]? = some ce → ce.vm = .none → s.vm.findClass E = some ce.cls → vx_W p l e R s m args below meth c H1 locs1 (cells + mc) (slots + ms) Q (F0 m pc ls rest) q9)
    (kk : ∀ (r : UInt32) (u : S) (t : State) (H1 : Heap) (locs1 : List Loc), t.heap = H1 → s.vm.Alike t.vm → post r u → B u t → H.size ≤ H1.size → (∀ q : Nat, q < H.size → ¬ A1 q → H1[q]? = H[q]?) → va_S A0 H0 H1 locs1 → W p l e R s m args below meth c H1 locs1 (cells + mc) (slots + ms) Q (F0 m (pc + 3) ls (.float r :: rest))) : W p l e R s m args below meth c H locs cells slots Q (F0 m pc ls st0) := by
  intro T hT X
  rcases hr T hT X with ⟨v, st₀, t, T', L, h0, X', hL, e1, e2, ⟨⟨r, u, hv, hp, hb⟩, hF⟩, st⟩ | ⟨q, st₀, t, T', L, E, ce, h0, X', hL, e1, e2, ⟨u, hp, hb, hF⟩, hce, hcv, hcl, st⟩
  · cases hv
    obtain ⟨k1, k2, k3⟩ := vx_keep h0 e1 hS hA hf hL hF
    obtain ⟨t2, a1, b1⟩ := kk r u t T'.heap (locs ++ L) e1.symm (by rw [← e2]; exact X'.warmed.alike) hp hb k1 k2 k3 T' rfl X'
    exact ⟨t2, st t2 a1, b1⟩
  · obtain ⟨k1, k2, k3⟩ := vx_keep h0 e1 hS hAX hf hL hF
    obtain ⟨t2, a1, b1⟩ := kx E ce q u t T'.heap (locs ++ L) e1.symm (by rw [← e2]; exact X'.warmed.alike) hp hb k1 k2 k3 (by rw [e1]; exact hce) hcv hcl T' rfl X'
    exact ⟨t2, st.trans a1, b1⟩
theorem vx_calld {S SX : Type} {post : UInt64 → S → Prop} {px : SX → Prop} {B : S → State → Prop} {BX : String → SX → State → Prop} {AX : Nat → Prop} (hr : vx_Run p l e R s m args below meth c H locs cells slots mc ms (F0 m pc ls st0) rest (va_Qd post B A1 a) (vx_X px BX AX) free) (hS : va_S A0 H0 H locs) (hA : ∀ q, q < H.size → A1 q → A0 q) (hf : ∀ q, free q → A0 q) (hAX : ∀ q, q < H.size → AX q → A0 q)
    (kx : ∀ (E : String) (ce : Cell) (q9 : Addr) (u : SX) (t : State) (H1 : Heap) (locs1 : List Loc), t.heap = H1 → s.vm.Alike t.vm → px u → BX E u t → H.size ≤ H1.size → (∀ q : Nat, q < H.size → ¬ AX q → H1[q]? = H[q]?) → va_S A0 H0 H1 locs1 → H1[q9]? = some ce → ce.vm = .none → s.vm.findClass E = some ce.cls → vx_W p l e R s m args below meth c H1 locs1 (cells + mc) (slots + ms) Q (F0 m pc ls rest) q9)
    (kk : ∀ (r : UInt64) (u : S) (t : State) (H1 : Heap) (locs1 : List Loc), t.heap = H1 → s.vm.Alike t.vm → post r u → B u t → H.size ≤ H1.size → (∀ q : Nat, q < H.size → ¬ A1 q → H1[q]? = H[q]?) → va_S A0 H0 H1 locs1 → W p l e R s m args below meth c H1 locs1 (cells + mc) (slots + ms) Q (F0 m (pc + 3) ls (.double r :: rest))) : W p l e R s m args below meth c H locs cells slots Q (F0 m pc ls st0) := by
  intro T hT X
  rcases hr T hT X with ⟨v, st₀, t, T', L, h0, X', hL, e1, e2, ⟨⟨r, u, hv, hp, hb⟩, hF⟩, st⟩ | ⟨q, st₀, t, T', L, E, ce, h0, X', hL, e1, e2, ⟨u, hp, hb, hF⟩, hce, hcv, hcl, st⟩
  · cases hv
    obtain ⟨k1, k2, k3⟩ := vx_keep h0 e1 hS hA hf hL hF
    obtain ⟨t2, a1, b1⟩ := kk r u t T'.heap (locs ++ L) e1.symm (by rw [← e2]; exact X'.warmed.alike) hp hb k1 k2 k3 T' rfl X'
    exact ⟨t2, st t2 a1, b1⟩
  · obtain ⟨k1, k2, k3⟩ := vx_keep h0 e1 hS hAX hf hL hF
    obtain ⟨t2, a1, b1⟩ := kx E ce q u t T'.heap (locs ++ L) e1.symm (by rw [← e2]; exact X'.warmed.alike) hp hb k1 k2 k3 (by rw [e1]; exact hce) hcv hcl T' rfl X'
    exact ⟨t2, st.trans a1, b1⟩
theorem vx_callv {S SX : Type} {post : S → Prop} {px : SX → Prop} {B : S → State → Prop} {BX : String → SX → State → Prop} {AX : Nat → Prop} (hr : vx_Run p l e R s m args below meth c H locs cells slots mc ms (F0 m pc ls st0) rest (va_Qv post B A1 a) (vx_X px BX AX) free) (hS : va_S A0 H0 H locs) (hA : ∀ q, q < H.size → A1 q → A0 q) (hf : ∀ q, free q → A0 q) (hAX : ∀ q, q < H.size → AX q → A0 q)
    (kx : ∀ (E : String) (ce : Cell) (q9 : Addr) (u : SX) (t : State) (H1 : Heap) (locs1 : List Loc), t.heap = H1 → s.vm.Alike t.vm → px u → BX E u t → H.size ≤ H1.size → (∀ q : Nat, q < H.size → ¬ AX q → H1[q]? = H[q]?) → va_S A0 H0 H1 locs1 → H1[q9]? = some ce → ce.vm = .none → s.vm.findClass E = some ce.cls → vx_W p l e R s m args below meth c H1 locs1 (cells + mc) (slots + ms) Q (F0 m pc ls rest) q9)
    (kk : ∀ (u : S) (t : State) (H1 : Heap) (locs1 : List Loc), t.heap = H1 → s.vm.Alike t.vm → post u → B u t → H.size ≤ H1.size → (∀ q : Nat, q < H.size → ¬ A1 q → H1[q]? = H[q]?) → va_S A0 H0 H1 locs1 → W p l e R s m args below meth c H1 locs1 (cells + mc) (slots + ms) Q (F0 m (pc + 3) ls (rest))) : W p l e R s m args below meth c H locs cells slots Q (F0 m pc ls st0) := by
  intro T hT X
  rcases hr T hT X with ⟨v, st₀, t, T', L, h0, X', hL, e1, e2, ⟨⟨u, hv, hp, hb⟩, hF⟩, st⟩ | ⟨q, st₀, t, T', L, E, ce, h0, X', hL, e1, e2, ⟨u, hp, hb, hF⟩, hce, hcv, hcl, st⟩
  · cases hv
    obtain ⟨k1, k2, k3⟩ := vx_keep h0 e1 hS hA hf hL hF
    obtain ⟨t2, a1, b1⟩ := kk u t T'.heap (locs ++ L) e1.symm (by rw [← e2]; exact X'.warmed.alike) hp hb k1 k2 k3 T' rfl X'
    exact ⟨t2, st t2 a1, b1⟩
  · obtain ⟨k1, k2, k3⟩ := vx_keep h0 e1 hS hAX hf hL hF
    obtain ⟨t2, a1, b1⟩ := kx E ce q u t T'.heap (locs ++ L) e1.symm (by rw [← e2]; exact X'.warmed.alike) hp hb k1 k2 k3 (by rw [e1]; exact hce) hcv hcl T' rfl X'
    exact ⟨t2, st.trans a1, b1⟩
/-- caught by the row x of this method's table; the rows ahead don't take it -/
theorem vx_catch {own name : String} {E : String} {ce : Cell} {q : Addr} (hown : s.vm.findClass own = some m.cls) (pre : List ExceptionTableEntry) (x : ExceptionTableEntry) (suf : List ExceptionTableEntry) (hsplit : c.exceptionTable.toList = pre ++ x :: suf)
    (hpass : ∀ z ∈ pre, covers z pc = false ∨ (z.catchType ≠ 0 ∧ ∃ nm : String, (Cond.classLink own z.catchType nm).before args s = true ∧ va_Nc E nm s)) (hx : covers x pc = true) (h0 : x.catchType ≠ 0)
    (hlink : (Cond.classLink own x.catchType name).before args s = true) (hcast : (Cond.castable E name).before args s = true) (hcell : H[q]? = some ce) (hv : ce.vm = .none) (hcl : s.vm.findClass E = some ce.cls)
    (kk : W p l e R s m args below meth c H locs cells slots Q (F0 m x.handlerPc ls [.ref q])) : vx_W p l e R s m args below meth c H locs cells slots Q (F0 m pc ls rest) q := by
  intro T hT X
  have hpl : e.platform.magicAccessors = ({} : Platform).magicAccessors := by rw [X.admits.platform]
  obtain ⟨c3, c4, hc3, hc4, hasg⟩ := Cond.castable_spec hcast
  cases Option.some.inj (hc3.symm.trans hcl)
  obtain ⟨c5, hc5, hcl5⟩ := Cond.classLink_spec hown hlink e.platform hpl
  cases Option.some.inj (hc4.symm.trans hc5)
  obtain ⟨vm', X', st⟩ := Stand.thenCaughtThrough X q (g := F0 m pc ls rest) rfl (Steps.refl _) (by rw [hT]; exact hcell) (by rw [hv]; rfl) (by obtain ⟨k9, h9, -⟩ := Vm.findClass_spec hcl; exact ⟨k9, h9⟩) pre x suf hsplit
    (fun z hz => by
      rcases hpass z hz with h | ⟨hz0, nm, hl1, hn1⟩
      · exact Or.inl h
      · obtain ⟨c6, hc6, hcl6⟩ := Cond.classLink_spec hown hl1 e.platform hpl
        obtain ⟨a8, b8, h1, h2, h3⟩ := hn1
        cases Option.some.inj (h1.symm.trans hcl)
        cases Option.some.inj (h2.symm.trans hc6)
        exact Or.inr ⟨hz0, _, hcl6, h3⟩) hx (Or.inr ⟨h0, c4, hcl5, hasg⟩)
  obtain ⟨t, a1, b1⟩ := kk (T.setVm vm') hT X'
  exact ⟨t, st.trans a1, b1⟩
end Rows
section Ends
variable {p : Program} {l : Launch} {e : Env} {R : Room} {s : State} {m : MethodId} {args : Array Value} {below : List Frame} {meth : Method} {c : Code} {H : Heap} {locs : List Loc} {cells slots : Nat} {Q : State → Prop}
variable {mc ms : Nat} {free : Addr → Prop} {A0 A1 : Nat → Prop} {H0 : Heap} {a : Array Value} {ls : Array Slot} {st0 rest : List Value}
variable {Qc : Array Value → State → Outcome → State → Prop} {XC : String → State → State → Prop}
/-- what a body that may throw owes at its end -/
def vx_MQ (below : List Frame) (Qc : Array Value → State → Outcome → State → Prop) (XC : String → State → State → Prop) (a : Array Value) (s : State) (mc ms : Nat) (free : Addr → Prop) : State → Prop := fun t =>
  ∃ o, t.status = .running ∧ Ended t below o ∧ vx_Q Qc XC mc ms free a s o t
theorem vx_ret {g : JFrame} {mc ms : Nat} (k : W p l e R s m args below meth c H locs cells slots (MQ below Qc args s mc ms free) g) : W p l e R s m args below meth c H locs cells slots (vx_MQ below Qc XC args s mc ms free) g := by
  intro T hT X
  obtain ⟨t, a1, o, b1, b2, b3, b4⟩ := k T hT X
  exact ⟨t, a1, o, b1, b2, Or.inl ⟨b3, b4⟩⟩
/-- not caught here: it goes on to the caller -/
theorem vx_widen {g : JFrame} {q : Addr} {k n : Nat} (h1 : cells ≤ k) (h2 : slots ≤ n) (kk : vx_W p l e R s m args below meth c H locs k n Q g q) : vx_W p l e R s m args below meth c H locs cells slots Q g q := fun T hT X => kk T hT (stand_widen X h1 h2)
theorem vx_out {pc : Nat} {E : String} {ce : Cell} {q : Addr} {mc ms : Nat} (hout : ∀ x ∈ c.exceptionTable.toList, covers x pc = false) (hlocks : meth.locks = false) (hcell : H[q]? = some ce) (hv : ce.vm = .none) (hcl : s.vm.findClass E = some ce.cls)
    (hx : ∀ t : State, t.heap = H → s.vm.Alike t.vm → XC E s t) (hf : ∀ z ∈ locs, free z.base) (hc : cells ≤ mc) (hs : slots ≤ ms) :
    vx_W p l e R s m args below meth c H locs cells slots (vx_MQ below Qc XC args s mc ms free) (F0 m pc ls rest) q := by
  intro T hT X
  obtain ⟨st1, hrun, hend, hW, hsm⟩ := X.leaveThrown q (g := F0 m pc ls rest) rfl rfl rfl hout hlocks
  have hcell9 : (T.setFrames (.throwing q :: below)).heap[q]? = some ce := by
    show T.heap[q]? = some ce
    rw [hT]; exact hcell
  exact ⟨_, st1, .threw q, hrun, hend, Or.inr ⟨q, rfl, E, ce, locs, hx _ hT hW.alike, hcell9, hv, hcl, hW, hsm.mono hc hs, hf⟩⟩
theorem vx_frame {U : State} {k n : Nat} (h : s.sameButNew ({ U with vm := s.vm } : State) locs k n) : s.heap.size ≤ U.heap.size ∧ ∀ q : Nat, q < s.heap.size → (∀ z ∈ locs, z.base ≠ q) → U.heap[q]? = s.heap[q]? := by
  obtain ⟨-, h2, -, -, -, h6⟩ := h
  refine ⟨h2, fun q hq hz => ?_⟩
  obtain ⟨c9, e1, e2, e3, e4⟩ := h6 q _ (Array.getElem?_eq_getElem hq)
  have hs : c9.slots = (s.heap[q]).slots := Array.ext_getElem? fun i => e4 i fun hm => hz _ hm rfl
  have h9 : c9 = s.heap[q] := by
    rw [hs] at e2
    exact e2
  have e5 : U.heap[q]? = some c9 := e1
  rw [e5, h9, Array.getElem?_eq_getElem hq]
/-- the words of a throw but the four that speak of the heap -/
def vx_no (w : Cond) : Bool := decide (w ≠ .isRef (.static Bundle.tN "UNASSIGNED_STACK" Bundle.steD)) && decide (w ≠ .isRef (.static Bundle.tN "SUPPRESSED_SENTINEL" Bundle.listD)) && decide (w ≠ .laysStatic Bundle.tN "UNASSIGNED_STACK" Bundle.steD) && decide (w ≠ .laysStatic Bundle.tN "SUPPRESSED_SENTINEL" Bundle.listD)
def vx_at0 (own : String) (ic : Nat) (X : String) (names : List String) : List Cond := (Bundle.ownAtoms0 own ic X names).filter vx_no
def vx_atS (own : String) (ic : Nat) (X : String) (names : List String) : List Cond := (Bundle.ownAtoms own ic X names).filter vx_no
/-- a word that the tables alone decide, or a good one -/
def vx_ot (w : Cond) : Bool := w.onTables || goodWord w
theorem vx_ot_at {args a' : Array Value} {s U : State} {w : Cond} (hW : s.WarmedH U.vm) (hvm : s.vm = U.vm) (hg : vx_ot w = true) (h : w.before args s = true) : w.before a' U = true := by
  simp only [vx_ot, Bool.or_eq_true] at hg
  rcases hg with hg | hg
  · exact va_tabs hg hvm h
  · exact word_at hW (good_of_word hg) h
/-- a list's words: the good ones out of the method's own list, the others by premises of their own -/
theorem vx_hat {args : Array Value} {s : State} {L B : List Cond} (h1 : ∀ w ∈ L.filter goodWord, w.before args s = true) (h2 : ∀ w ∈ L.filter (fun w => !goodWord w), w ∈ B) (h3 : ∀ w ∈ B, w.before args s = true) : ∀ w ∈ L, w.before args s = true := by
  intro w hw
  by_cases g : goodWord w = true
  · exact h1 w (List.mem_filter.mpr ⟨hw, g⟩)
  · refine h3 w (h2 w (List.mem_filter.mpr ⟨hw, ?_⟩))
    show (!goodWord w) = true
    cases hgw : goodWord w
    · rfl
    · exact absurd hgw g
theorem vx_c {args : Array Value} {s : State} {w : Cond} {B : List Cond} (h : w.before args s = true) (t : ∀ w ∈ B, w.before args s = true) : ∀ w' ∈ w :: B, w'.before args s = true := fun w' h' => (List.mem_cons.mp h').elim (fun e => by rw [e]; exact h) (t w')
theorem vx_n {args : Array Value} {s : State} : ∀ w ∈ ([] : List Cond), w.before args s = true := fun _ h => nomatch h
theorem vx_own {args : Array Value} {s : State} {L : List Cond} (h1 : ∀ w ∈ L.filter vx_no, w.before args s = true)
    (hU : (Cond.isRef (.static Bundle.tN "UNASSIGNED_STACK" Bundle.steD)).before args s = true) (hN : (Cond.isRef (.static Bundle.tN "SUPPRESSED_SENTINEL" Bundle.listD)).before args s = true)
    (lU : (Cond.laysStatic Bundle.tN "UNASSIGNED_STACK" Bundle.steD).before args s = true) (lN : (Cond.laysStatic Bundle.tN "SUPPRESSED_SENTINEL" Bundle.listD).before args s = true) : ∀ w ∈ L, w.before args s = true := by
  intro w hw
  by_cases e1 : w = .isRef (.static Bundle.tN "UNASSIGNED_STACK" Bundle.steD)
  · rw [e1]; exact hU
  · by_cases e2 : w = .isRef (.static Bundle.tN "SUPPRESSED_SENTINEL" Bundle.listD)
    · rw [e2]; exact hN
    · by_cases e3 : w = .laysStatic Bundle.tN "UNASSIGNED_STACK" Bundle.steD
      · rw [e3]; exact lU
      · by_cases e4 : w = .laysStatic Bundle.tN "SUPPRESSED_SENTINEL" Bundle.listD
        · rw [e4]; exact lN
        · exact h1 w (List.mem_filter.mpr ⟨hw, by unfold vx_no; rw [decide_eq_true e1, decide_eq_true e2, decide_eq_true e3, decide_eq_true e4]; rfl⟩)
/-- where a static field lies, its class's statics cell in H -/
def vx_L (C n d : String) (A : Nat → Prop) (U : State) (H : Heap) : Prop := ∃ (c : ClassId) (k : Class) (i : Nat) (f : Field) (a : Nat) (cell : Cell), U.vm.findClass C = some c ∧ U.fieldFound? C n d = some (c, k, i, f) ∧ f.isStatic = true ∧ k.statics = some a ∧ H[a]? = some cell ∧ cell.vm.isStatics = true ∧ cell.cls = c ∧ f.slot < cell.slots.size ∧ k.staticTypes[f.slot]? = some f.type ∧ ¬ A a
theorem vx_L.moved {C n d : String} {A : Nat → Prop} {u U : State} {H : Heap} (hvm : u.vm.Alike U.vm) (h : vx_L C n d A u H) : vx_L C n d A U H := by
  obtain ⟨c, k, i, f, a, cell, h1, h2, h3, h4, h5, h6, h7, h8, h9, h10⟩ := h
  obtain ⟨k', hi', he⟩ := State.fieldFound?_setVm hvm h2
  exact ⟨c, k', i, f, a, cell, by rw [hvm.findClass]; exact h1, hi', h3, by rw [he]; exact h4, h5, h6, h7, h8, by rw [he]; exact h9, h10⟩
theorem vx_L.kept {C n d : String} {A : Nat → Prop} {U : State} {H H1 : Heap} (h : vx_L C n d A U H) (hq : ∀ a : Nat, a < H.size → ¬ A a → H1[a]? = H[a]?) : vx_L C n d A U H1 := by
  obtain ⟨c, k, i, f, a, cell, h1, h2, h3, h4, h5, h6, h7, h8, h9, h10⟩ := h
  exact ⟨c, k, i, f, a, cell, h1, h2, h3, h4, by rw [hq a (Array.getElem?_eq_some_iff.mp h5).1 h10]; exact h5, h6, h7, h8, h9, h10⟩
theorem vx_L.narrow {C n d : String} {A B : Nat → Prop} {U : State} {H : Heap} (h : vx_L C n d A U H) (hAB : ∀ q, B q → A q) : vx_L C n d B U H := by
  obtain ⟨c, k, i, f, a, cell, h1, h2, h3, h4, h5, h6, h7, h8, h9, h10⟩ := h
  exact ⟨c, k, i, f, a, cell, h1, h2, h3, h4, h5, h6, h7, h8, h9, fun z => h10 (hAB _ z)⟩
theorem vx_L.word {C n d : String} {A : Nat → Prop} {s : State} {args : Array Value} (h : vx_L C n d A s s.heap) : (Cond.laysStatic C n d).before args s = true := by
  obtain ⟨c, k, i, f, a, cell, h1, h2, h3, h4, h5, h6, h7, h8, h9, -⟩ := h
  show (Cond.laysStatic C n d).holds args s none s [] = true
  exact Cond.laysStatic_of h1 h2 h3 h4 h5 h6 h7 h8 h9
/-- .. and what it holds: null or some reference -/
def vx_Zq (C n d : String) (A : Nat → Prop) (U : State) (H : Heap) : Prop := va_Zq C n d A U H ∧ vx_L C n d A U H
theorem vx_Zq.moved {C n d : String} {A : Nat → Prop} {u U : State} {H : Heap} (hvm : u.vm.Alike U.vm) (h : vx_Zq C n d A u H) : vx_Zq C n d A U H := ⟨va_Zq.moved hvm h.1, vx_L.moved hvm h.2⟩
theorem vx_Zq.kept {C n d : String} {A : Nat → Prop} {U : State} {H H1 : Heap} (h : vx_Zq C n d A U H) (hq : ∀ a : Nat, a < H.size → ¬ A a → H1[a]? = H[a]?) : vx_Zq C n d A U H1 := ⟨va_Zq.kept h.1 hq, vx_L.kept h.2 hq⟩
theorem vx_Zq.narrow {C n d : String} {A B : Nat → Prop} {U : State} {H : Heap} (h : vx_Zq C n d A U H) (hAB : ∀ q, B q → A q) : vx_Zq C n d B U H := ⟨va_Zq.narrow h.1 hAB, vx_L.narrow h.2 hAB⟩
theorem vx_Zqof {args : Array Value} {s : State} {C n d : String} {A : Nat → Prop} (hl : (Cond.laysStatic C n d).before args s = true) (hini : (Cond.initialized C).before args s = true) (h : (Cond.isRef (.static C n d)).before args s = true) (hA : ∀ a : Nat, a < s.heap.size → ¬ A a) : vx_Zq C n d A s s.heap := by
  refine ⟨va_Zqof hl hini h hA, ?_⟩
  obtain ⟨c, k, i, f, a, cell, h1, h2, h3, h4, h5, h6, h7, h8, h9⟩ := Cond.laysStatic_spec hl
  exact ⟨c, k, i, f, a, cell, h1, h2, h3, h4, h5, h6, h7, h8, h9, hA a (Array.getElem?_eq_some_iff.mp h5).1⟩
theorem vx_isRef {C n d : String} {v : Value} {A : Nat → Prop} {s : State} {args : Array Value} (h : va_Z C n d v A s s.heap) (hv : v.isRef = true) : (Cond.isRef (.static C n d)).before args s = true := by
  obtain ⟨cf, kf, fi, f, a, cell, h1, h2, h3, h4, h5, h6, h7, -⟩ := h
  have he : (Term.static C n d).eval args s none [] s = some v := by
    simp [Term.eval, State.fieldNamed?, h1, h2, h4, h5, h6, h7]
  simp only [Cond.before, Cond.holds, Cond.value, he]
  cases v <;> simp_all [Value.isRef]
theorem vx_isRefq {C n d : String} {A : Nat → Prop} {s : State} {args : Array Value} (h : va_Zq C n d A s s.heap) : (Cond.isRef (.static C n d)).before args s = true := by
  rcases h with h | ⟨t, h⟩
  · exact vx_isRef h rfl
  · exact vx_isRef h rfl
/-- the same frame, seen from here: as if the method were called anew in this heap -/
theorem vx_rebase {T : State} (X : Stand p l e R s m args below meth c T locs cells slots) {R' : Room} (hf : R'.frames ≤ R.frames) (hl : R'.locals ≤ R.locals) (hc : cells + R'.cells ≤ R.cells) (hs : slots + R'.slots ≤ R.slots) :
    Stand p l e R' ((T.setVm s.vm).setFrames (.invoking m args :: below)) m args below meth c T [] 0 0 := by
  have htop : (T.setVm s.vm).topJava?.isSome := X.here.top
  have hF : ((T.setVm s.vm).setFrames (.invoking m args :: below)).frames = .invoking m args :: below := State.frames_setFrames _ (State.cur_lt_of_top htop)
  obtain ⟨g₀, hg0⟩ := Option.isSome_iff_exists.mp htop
  obtain ⟨r, hr⟩ := State.topJava?_eq_some.mp hg0
  have hl9 : e.platform.stackLimits (T.setVm s.vm).me = e.platform.stackLimits s.me := X.limits
  have hb9 : (T.setVm s.vm).me.stackBytes = s.me.stackBytes := X.bytes
  refine ⟨X.admits, X.cas, X.clock, hF, ?_, X.hears, X.method, X.code, X.here, X.tail, X.warmed, ?_, ?_, ?_⟩
  · have h := X.room
    have hU : ((T.setVm s.vm).setFrames (.invoking m args :: below)).localsInUse = s.localsInUse := by
      rw [State.localsInUse_invoking hF (meth := meth) (c := c) X.method X.code, State.localsInUse_invoking X.frames X.method X.code]
    simp only [State.hasRoom, Bool.and_eq_true, decide_eq_true_eq] at h ⊢
    obtain ⟨⟨⟨⟨h1, h2, h3, h4, h5, h6⟩, h7⟩, h8⟩, h9⟩ := h
    rw [X.frames, List.length_cons] at h2 h3
    have q1 := X.heapSize
    have q2 := X.used
    simp only [hF, hU, List.length_cons, State.stackLimits_setFrames, State.stackBytes_setFrames, hl9, hb9]
    refine ⟨⟨⟨⟨by omega, by omega, by omega, by omega, by omega, h6⟩, ?_⟩, ?_⟩, X.book⟩
    · show T.heap.size + R'.cells ≤ e.platform.maxCells
      omega
    · show T.slotsUsed + R'.slots ≤ e.platform.maxSlots
      omega
  · rw [State.stackLimits_setFrames]; rfl
  · rw [State.stackBytes_setFrames]; rfl
  · refine ⟨?_, Nat.le_refl _, Nat.le_refl _, ?_, ?_, fun a c9 h9 => ⟨c9, h9, rfl, rfl, fun _ _ => rfl⟩⟩
    · obtain ⟨t, ht, -⟩ := State.frames_cons hr
      show T.setVm s.vm = { ((T.setVm s.vm).setFrames (.invoking m args :: below)).setFrames (T.setVm s.vm).frames with heap := T.heap, slotsUsed := T.slotsUsed }
      rw [State.setFrames_setFrames, State.setFrames_self ht]
      rfl
    · show T.slotsUsed = T.slotsUsed + ((T.heap.toList.drop T.heap.size).map (·.slots.size)).sum
      rw [List.drop_eq_nil_of_le (Nat.le_of_eq Array.length_toList)]
      rfl
    · show ((T.heap.toList.drop T.heap.size).map (·.slots.size)).sum ≤ 0
      rw [List.drop_eq_nil_of_le (Nat.le_of_eq Array.length_toList)]
      exact Nat.le_refl _
/-- 'throw new E()': new; dup; invokespecial; athrow -/
theorem vx_throw0 {cc : ByteArray} {pc : Nat} (hexec : p.tables.exec = Jvm.exec) (hb : c.code = cc) (hl : l.stackTraces = false) {own cls : String} {names : List String} {ik ic mc ms : Nat} {A : Nat → Prop}
    (hown : s.vm.findClass own = some m.cls) (hcls : Bundle.fit cls = true) (hnames : ∀ n ∈ names, Bundle.fit n = true)
    (hk : (Cond.classLink own ik cls).before args s = true) (hini : (Cond.initialized cls).before args s = true) (hat : ∀ w ∈ vx_at0 own ic cls names, w.before args s = true)
    (hgood : ∀ w ∈ Cond.classLink own ik cls :: Cond.initialized cls :: vx_at0 own ic cls names, vx_ot w = true)
    (hU : vx_Zq Bundle.tN "UNASSIGNED_STACK" Bundle.steD A s s.heap) (hN : vx_Zq Bundle.tN "SUPPRESSED_SENTINEL" Bundle.listD A s s.heap) (hS : va_S A s.heap H locs) (hsize : ls.size = c.maxLocals)
    (d0 : decode cc pc = .ok (.new ik, 3)) (d3 : decode cc (pc + 3) = .ok (.dup, 1)) (d4 : decode cc (pc + 4) = .ok (.invokespecial ic, 3)) (d7 : decode cc (pc + 7) = .ok (.athrow, 1))
    (hout : ∀ x ∈ c.exceptionTable.toList, covers x (pc + 7) = false)
    (hRframes : names.length + 3 < R.frames) (hRlocals : (rest.map fun v => v.category).sum + (13 * (names.length + 1) + 42) ≤ R.locals) (hRcells : cells + 1 ≤ R.cells) (hRslots : slots + 6 ≤ R.slots) (hlocks : meth.locks = false)
    (hx : ∀ t : State, s.vm.Alike t.vm → H.size ≤ t.heap.size → (∀ q : Nat, q < H.size → t.heap[q]? = H[q]?) → XC cls s t)
    (hf : ∀ z ∈ locs, free z.base) (hc : cells + 1 ≤ mc) (hs : slots + 6 ≤ ms) :
    W p l e R s m args below meth c H locs cells slots (vx_MQ below Qc XC args s mc ms free) (F0 m pc ls rest) := by
  intro T hT X
  have htr : e.platform.stackTraces = false := (show e.platform.stackTraces = l.stackTraces by rw [X.admits.platform]).trans hl
  have Y := vx_rebase X (R' := { frames := R.frames, locals := R.locals, cells := 1, slots := 6 }) (Nat.le_refl _) (Nat.le_refl _) hRcells hRslots
  obtain ⟨s', hA⟩ : ∃ z, z = (T.setVm s.vm).setFrames (.invoking m args :: below) := ⟨_, rfl⟩
  rw [← hA] at Y
  have hvm : s'.vm = s.vm := by rw [hA]; rfl
  have hhp : s'.heap = H := by rw [hA]; exact hT
  have hW0 : s.WarmedH s'.vm := by rw [hvm]; exact State.WarmedH.refl s
  have hat' : ∀ w ∈ vx_at0 own ic cls names, w.before args s' = true := fun w hw => vx_ot_at hW0 hvm.symm (hgood w (List.mem_cons_of_mem _ (List.mem_cons_of_mem _ hw))) (hat w hw)
  have hk' : (Cond.classLink own ik cls).before args s' = true := vx_ot_at hW0 hvm.symm (hgood _ List.mem_cons_self) hk
  have hini' : (Cond.initialized cls).before args s' = true := vx_ot_at hW0 hvm.symm (hgood _ (List.mem_cons_of_mem _ List.mem_cons_self)) hini
  have hU' : vx_Zq Bundle.tN "UNASSIGNED_STACK" Bundle.steD A s' s'.heap := by rw [hhp]; exact vx_Zq.moved hW0.alike (hU.kept hS.2.1)
  have hN' : vx_Zq Bundle.tN "SUPPRESSED_SENTINEL" Bundle.listD A s' s'.heap := by rw [hhp]; exact vx_Zq.moved hW0.alike (hN.kept hS.2.1)
  have h : ∀ w ∈ Bundle.ownAtoms0 own ic cls names, w.before args s' = true := vx_own hat' (vx_isRefq hU'.1) (vx_isRefq hN'.1) hU'.2.word hN'.2.word
  have hown' : s'.vm.findClass own = some m.cls := by rw [hvm]; exact hown
  have hins : (Cond.instantiable cls 6).before args s' = true := h _ (by simp [Bundle.ownAtoms0])
  obtain ⟨vm₁, cX, kX, hfX, hkX, -, -, X₁, st1⟩ := Y.newCold hexec (own := own) (C := cls) (index := ik) (n := 6) hown' hk' hins hini'
    (g := F0 m pc ls rest) rfl (by rw [hb]; exact d0) (Nat.le_refl _) (Nat.le_refl _)
  generalize hT1 : (T.setVm vm₁).pushCell { cls := cX, slots := kX.instanceTypes.map defaultValue, vm := .none } = T1 at X₁ st1
  have hcat : (Value.ref T.heap.size).category = 1 := rfl
  have hcellA : T1.heap[T.heap.size]? = some (freshCell cX kX) := by rw [← hT1]; exact State.heap_pushCell_size _ _
  have d3' : decode c.code (pc + 3) = .ok (.dup, 1) := by rw [hb]; exact d3
  obtain ⟨U, hsteps, hrun, hend, hW, hsame, ce, hce, hO⟩ := X₁.ctorThrow0 hexec htr (own := own) (cls := cls) (names := names) (ic := ic) hown' hcls hnames h (fun x hx => nomatch hx) hfX hkX hcellA (by rw [hhp, hT]; exact Nat.le_refl _)
    (g := { method := m, pc := pc + 4, locals := ls, stack := .ref T.heap.size :: .ref T.heap.size :: rest, locked := none }) rfl hsize rfl rfl (rest := rest) rfl
    (by rw [hb]; exact d4) (by rw [hb]; exact d7) hout hRframes (by simp only [List.map_cons, List.sum_cons, hcat]; omega) hlocks
  obtain ⟨f1, f2⟩ := vx_frame hsame
  rw [hhp] at f1 f2
  have hWs : s.WarmedH U.vm := State.WarmedH.trans hW0 hW
  have hcl : s.vm.findClass cls = some ce.cls := by
    have h9 := hO.cls
    rw [hvm] at h9
    exact h9
  have hall : s.sameButNew ({ U with vm := s.vm } : State) locs mc ms := by
    subst hA
    obtain ⟨e1, e2⟩ := hsame
    rw [State.setFrames_setFrames] at e1
    have h2 : (T.setVm s.vm).sameButNew ({ U with vm := s.vm } : State) [] (0 + 1) (0 + 6) := ⟨e1, e2⟩
    have h3 := X.same.trans h2
    rw [List.append_nil] at h3
    exact h3.mono hc hs
  refine ⟨U, ?_, .threw T.heap.size, hrun, hend, Or.inr ⟨T.heap.size, rfl, cls, ce, locs, hx U hWs.alike f1 (fun q hq => f2 q hq (fun z hz => nomatch hz)), hce, hO.vm, hcl, hWs, hall, hf⟩⟩
  refine st1 _ ?_
  show Steps p.tables e below (T1.setTop { method := m, pc := pc + 3, locals := ls, stack := .ref T.heap.size :: rest, locked := none }) _
  jvm_step X₁.here [X₁.here.top, hexec, d3', Value.category]
  exact hsteps
/-- 'throw new E("text")': new; dup; ldc; invokespecial; athrow -/
theorem vx_throwS {cc : ByteArray} {pc : Nat} (hexec : p.tables.exec = Jvm.exec) (hb : c.code = cc) (hl : l.stackTraces = false) {own cls text : String} {names : List String} {ik is ic mc ms sa : Nat} {A : Nat → Prop}
    (hown : s.vm.findClass own = some m.cls) (hcls : Bundle.fit cls = true) (hnames : ∀ n ∈ names, Bundle.fit n = true)
    (hk : (Cond.classLink own ik cls).before args s = true) (hini : (Cond.initialized cls).before args s = true) (hstr : vk_R own is text sa s) (hat : ∀ w ∈ vx_atS own ic cls names, w.before args s = true)
    (hgood : ∀ w ∈ Cond.classLink own ik cls :: Cond.initialized cls :: vx_atS own ic cls names, vx_ot w = true)
    (hU : vx_Zq Bundle.tN "UNASSIGNED_STACK" Bundle.steD A s s.heap) (hN : vx_Zq Bundle.tN "SUPPRESSED_SENTINEL" Bundle.listD A s s.heap) (hS : va_S A s.heap H locs) (hsize : ls.size = c.maxLocals)
    (d0 : decode cc pc = .ok (.new ik, 3)) (d3 : decode cc (pc + 3) = .ok (.dup, 1)) (d4 : decode cc (pc + 4) = .ok (.ldc is, 2)) (d6 : decode cc (pc + 6) = .ok (.invokespecial ic, 3)) (d9 : decode cc (pc + 9) = .ok (.athrow, 1))
    (hout : ∀ x ∈ c.exceptionTable.toList, covers x (pc + 9) = false)
    (hRframes : names.length + 3 < R.frames) (hRlocals : (rest.map fun v => v.category).sum + (13 * (names.length + 1) + 43) ≤ R.locals) (hRcells : cells + 1 ≤ R.cells) (hRslots : slots + 6 ≤ R.slots) (hlocks : meth.locks = false)
    (hx : ∀ t : State, s.vm.Alike t.vm → H.size ≤ t.heap.size → (∀ q : Nat, q < H.size → t.heap[q]? = H[q]?) → XC cls s t)
    (hf : ∀ z ∈ locs, free z.base) (hc : cells + 1 ≤ mc) (hs : slots + 6 ≤ ms) :
    W p l e R s m args below meth c H locs cells slots (vx_MQ below Qc XC args s mc ms free) (F0 m pc ls rest) := by
  intro T hT X
  have htr : e.platform.stackTraces = false := (show e.platform.stackTraces = l.stackTraces by rw [X.admits.platform]).trans hl
  have Y := vx_rebase X (R' := { frames := R.frames, locals := R.locals, cells := 1, slots := 6 }) (Nat.le_refl _) (Nat.le_refl _) hRcells hRslots
  obtain ⟨s', hA⟩ : ∃ z, z = (T.setVm s.vm).setFrames (.invoking m args :: below) := ⟨_, rfl⟩
  rw [← hA] at Y
  have hvm : s'.vm = s.vm := by rw [hA]; rfl
  have hhp : s'.heap = H := by rw [hA]; exact hT
  have hW0 : s.WarmedH s'.vm := by rw [hvm]; exact State.WarmedH.refl s
  have hat' : ∀ w ∈ vx_atS own ic cls names, w.before args s' = true := fun w hw => vx_ot_at hW0 hvm.symm (hgood w (List.mem_cons_of_mem _ (List.mem_cons_of_mem _ hw))) (hat w hw)
  have hk' : (Cond.classLink own ik cls).before args s' = true := vx_ot_at hW0 hvm.symm (hgood _ List.mem_cons_self) hk
  have hini' : (Cond.initialized cls).before args s' = true := vx_ot_at hW0 hvm.symm (hgood _ (List.mem_cons_of_mem _ List.mem_cons_self)) hini
  have hU' : vx_Zq Bundle.tN "UNASSIGNED_STACK" Bundle.steD A s' s'.heap := by rw [hhp]; exact vx_Zq.moved hW0.alike (hU.kept hS.2.1)
  have hN' : vx_Zq Bundle.tN "SUPPRESSED_SENTINEL" Bundle.listD A s' s'.heap := by rw [hhp]; exact vx_Zq.moved hW0.alike (hN.kept hS.2.1)
  have h : ∀ w ∈ Bundle.ownAtoms own ic cls names, w.before args s' = true := vx_own hat' (vx_isRefq hU'.1) (vx_isRefq hN'.1) hU'.2.word hN'.2.word
  have hown' : s'.vm.findClass own = some m.cls := by rw [hvm]; exact hown
  have hins : (Cond.instantiable cls 6).before args s' = true := h _ (by simp [Bundle.ownAtoms])
  obtain ⟨vm₁, cX, kX, hfX, hkX, -, -, X₁, st1⟩ := Y.newCold hexec (own := own) (C := cls) (index := ik) (n := 6) hown' hk' hins hini'
    (g := F0 m pc ls rest) rfl (by rw [hb]; exact d0) (Nat.le_refl _) (Nat.le_refl _)
  generalize hT1 : (T.setVm vm₁).pushCell { cls := cX, slots := kX.instanceTypes.map defaultValue, vm := .none } = T1 at X₁ st1
  have hcat : (Value.ref T.heap.size).category = 1 := rfl
  have hcellA : T1.heap[T.heap.size]? = some (freshCell cX kX) := by rw [← hT1]; exact State.heap_pushCell_size _ _
  have d3' : decode c.code (pc + 3) = .ok (.dup, 1) := by rw [hb]; exact d3
  have d4' : decode c.code (pc + 4) = .ok (.ldc is, 2) := by rw [hb]; exact d4
  have hstr' : vk_R own is text sa s' := vk_R.warm hW0 hstr
  obtain ⟨U, hsteps, hrun, hend, hW, hsame, ce, hce, hO⟩ := X₁.ctorThrowS hexec htr (own := own) (cls := cls) (names := names) (ic := ic) hown' hcls hnames h (fun x hx => nomatch hx) hfX hkX hcellA (by rw [hhp, hT]; exact Nat.le_refl _) (msg := .ref sa) rfl
    (g := { method := m, pc := pc + 6, locals := ls, stack := .ref sa :: .ref T.heap.size :: .ref T.heap.size :: rest, locked := none }) rfl hsize rfl rfl (rest := rest) rfl
    (by rw [hb]; exact d6) (by rw [hb]; exact d9) hout hRframes (by simp only [List.map_cons, List.sum_cons, hcat]; omega) hlocks
  obtain ⟨f1, f2⟩ := vx_frame hsame
  rw [hhp] at f1 f2
  have hWs : s.WarmedH U.vm := State.WarmedH.trans hW0 hW
  have hcl : s.vm.findClass cls = some ce.cls := by
    have h9 := hO.cls
    rw [hvm] at h9
    exact h9
  have hall : s.sameButNew ({ U with vm := s.vm } : State) locs mc ms := by
    subst hA
    obtain ⟨e1, e2⟩ := hsame
    rw [State.setFrames_setFrames] at e1
    have h2 : (T.setVm s.vm).sameButNew ({ U with vm := s.vm } : State) [] (0 + 1) (0 + 6) := ⟨e1, e2⟩
    have h3 := X.same.trans h2
    rw [List.append_nil] at h3
    exact h3.mono hc hs
  refine ⟨U, ?_, .threw T.heap.size, hrun, hend, Or.inr ⟨T.heap.size, rfl, cls, ce, locs, hx U hWs.alike f1 (fun q hq => f2 q hq (fun z hz => nomatch hz)), hce, hO.vm, hcl, hWs, hall, hf⟩⟩
  refine st1 _ ?_
  show Steps p.tables e below (T1.setTop { method := m, pc := pc + 3, locals := ls, stack := .ref T.heap.size :: rest, locked := none }) _
  jvm_step X₁.here [X₁.here.top, hexec, d3', Value.category]
  exact X₁.ldcString hexec (own := own) (text := text) (index := is) (a := sa) hown' hstr'.1 hstr'.2
    (g := { method := m, pc := pc + 4, locals := ls, stack := .ref T.heap.size :: .ref T.heap.size :: rest, locked := none }) rfl d4' _ hsteps
/-- 'throw new E("text")', the text by a wide index -/
theorem vx_throwSW {cc : ByteArray} {pc : Nat} (hexec : p.tables.exec = Jvm.exec) (hb : c.code = cc) (hl : l.stackTraces = false) {own cls text : String} {names : List String} {ik is ic mc ms sa : Nat} {A : Nat → Prop}
    (hown : s.vm.findClass own = some m.cls) (hcls : Bundle.fit cls = true) (hnames : ∀ n ∈ names, Bundle.fit n = true)
    (hk : (Cond.classLink own ik cls).before args s = true) (hini : (Cond.initialized cls).before args s = true) (hstr : vk_R own is text sa s) (hat : ∀ w ∈ vx_atS own ic cls names, w.before args s = true)
    (hgood : ∀ w ∈ Cond.classLink own ik cls :: Cond.initialized cls :: vx_atS own ic cls names, vx_ot w = true)
    (hU : vx_Zq Bundle.tN "UNASSIGNED_STACK" Bundle.steD A s s.heap) (hN : vx_Zq Bundle.tN "SUPPRESSED_SENTINEL" Bundle.listD A s s.heap) (hS : va_S A s.heap H locs) (hsize : ls.size = c.maxLocals)
    (d0 : decode cc pc = .ok (.new ik, 3)) (d3 : decode cc (pc + 3) = .ok (.dup, 1)) (d4 : decode cc (pc + 4) = .ok (.ldc_w is, 3)) (d7 : decode cc (pc + 7) = .ok (.invokespecial ic, 3)) (d10 : decode cc (pc + 10) = .ok (.athrow, 1))
    (hout : ∀ x ∈ c.exceptionTable.toList, covers x (pc + 10) = false)
    (hRframes : names.length + 3 < R.frames) (hRlocals : (rest.map fun v => v.category).sum + (13 * (names.length + 1) + 43) ≤ R.locals) (hRcells : cells + 1 ≤ R.cells) (hRslots : slots + 6 ≤ R.slots) (hlocks : meth.locks = false)
    (hx : ∀ t : State, s.vm.Alike t.vm → H.size ≤ t.heap.size → (∀ q : Nat, q < H.size → t.heap[q]? = H[q]?) → XC cls s t)
    (hf : ∀ z ∈ locs, free z.base) (hc : cells + 1 ≤ mc) (hs : slots + 6 ≤ ms) :
    W p l e R s m args below meth c H locs cells slots (vx_MQ below Qc XC args s mc ms free) (F0 m pc ls rest) := by
  intro T hT X
  have htr : e.platform.stackTraces = false := (show e.platform.stackTraces = l.stackTraces by rw [X.admits.platform]).trans hl
  have Y := vx_rebase X (R' := { frames := R.frames, locals := R.locals, cells := 1, slots := 6 }) (Nat.le_refl _) (Nat.le_refl _) hRcells hRslots
  obtain ⟨s', hA⟩ : ∃ z, z = (T.setVm s.vm).setFrames (.invoking m args :: below) := ⟨_, rfl⟩
  rw [← hA] at Y
  have hvm : s'.vm = s.vm := by rw [hA]; rfl
  have hhp : s'.heap = H := by rw [hA]; exact hT
  have hW0 : s.WarmedH s'.vm := by rw [hvm]; exact State.WarmedH.refl s
  have hat' : ∀ w ∈ vx_atS own ic cls names, w.before args s' = true := fun w hw => vx_ot_at hW0 hvm.symm (hgood w (List.mem_cons_of_mem _ (List.mem_cons_of_mem _ hw))) (hat w hw)
  have hk' : (Cond.classLink own ik cls).before args s' = true := vx_ot_at hW0 hvm.symm (hgood _ List.mem_cons_self) hk
  have hini' : (Cond.initialized cls).before args s' = true := vx_ot_at hW0 hvm.symm (hgood _ (List.mem_cons_of_mem _ List.mem_cons_self)) hini
  have hU' : vx_Zq Bundle.tN "UNASSIGNED_STACK" Bundle.steD A s' s'.heap := by rw [hhp]; exact vx_Zq.moved hW0.alike (hU.kept hS.2.1)
  have hN' : vx_Zq Bundle.tN "SUPPRESSED_SENTINEL" Bundle.listD A s' s'.heap := by rw [hhp]; exact vx_Zq.moved hW0.alike (hN.kept hS.2.1)
  have h : ∀ w ∈ Bundle.ownAtoms own ic cls names, w.before args s' = true := vx_own hat' (vx_isRefq hU'.1) (vx_isRefq hN'.1) hU'.2.word hN'.2.word
  have hown' : s'.vm.findClass own = some m.cls := by rw [hvm]; exact hown
  have hins : (Cond.instantiable cls 6).before args s' = true := h _ (by simp [Bundle.ownAtoms])
  obtain ⟨vm₁, cX, kX, hfX, hkX, -, -, X₁, st1⟩ := Y.newCold hexec (own := own) (C := cls) (index := ik) (n := 6) hown' hk' hins hini'
    (g := F0 m pc ls rest) rfl (by rw [hb]; exact d0) (Nat.le_refl _) (Nat.le_refl _)
  generalize hT1 : (T.setVm vm₁).pushCell { cls := cX, slots := kX.instanceTypes.map defaultValue, vm := .none } = T1 at X₁ st1
  have hcat : (Value.ref T.heap.size).category = 1 := rfl
  have hcellA : T1.heap[T.heap.size]? = some (freshCell cX kX) := by rw [← hT1]; exact State.heap_pushCell_size _ _
  have d3' : decode c.code (pc + 3) = .ok (.dup, 1) := by rw [hb]; exact d3
  have d4' : decode c.code (pc + 4) = .ok (.ldc_w is, 3) := by rw [hb]; exact d4
  have hstr' : vk_R own is text sa s' := vk_R.warm hW0 hstr
  obtain ⟨U, hsteps, hrun, hend, hW, hsame, ce, hce, hO⟩ := X₁.ctorThrowS hexec htr (own := own) (cls := cls) (names := names) (ic := ic) hown' hcls hnames h (fun x hx => nomatch hx) hfX hkX hcellA (by rw [hhp, hT]; exact Nat.le_refl _) (msg := .ref sa) rfl
    (g := { method := m, pc := pc + 7, locals := ls, stack := .ref sa :: .ref T.heap.size :: .ref T.heap.size :: rest, locked := none }) rfl hsize rfl rfl (rest := rest) rfl
    (by rw [hb]; exact d7) (by rw [hb]; exact d10) hout hRframes (by simp only [List.map_cons, List.sum_cons, hcat]; omega) hlocks
  obtain ⟨f1, f2⟩ := vx_frame hsame
  rw [hhp] at f1 f2
  have hWs : s.WarmedH U.vm := State.WarmedH.trans hW0 hW
  have hcl : s.vm.findClass cls = some ce.cls := by
    have h9 := hO.cls
    rw [hvm] at h9
    exact h9
  have hall : s.sameButNew ({ U with vm := s.vm } : State) locs mc ms := by
    subst hA
    obtain ⟨e1, e2⟩ := hsame
    rw [State.setFrames_setFrames] at e1
    have h2 : (T.setVm s.vm).sameButNew ({ U with vm := s.vm } : State) [] (0 + 1) (0 + 6) := ⟨e1, e2⟩
    have h3 := X.same.trans h2
    rw [List.append_nil] at h3
    exact h3.mono hc hs
  refine ⟨U, ?_, .threw T.heap.size, hrun, hend, Or.inr ⟨T.heap.size, rfl, cls, ce, locs, hx U hWs.alike f1 (fun q hq => f2 q hq (fun z hz => nomatch hz)), hce, hO.vm, hcl, hWs, hall, hf⟩⟩
  refine st1 _ ?_
  show Steps p.tables e below (T1.setTop { method := m, pc := pc + 3, locals := ls, stack := .ref T.heap.size :: rest, locked := none }) _
  jvm_step X₁.here [X₁.here.top, hexec, d3', Value.category]
  exact X₁.ldcStringW hexec (own := own) (text := text) (index := is) (a := sa) hown' hstr'.1 hstr'.2
    (g := { method := m, pc := pc + 4, locals := ls, stack := .ref T.heap.size :: .ref T.heap.size :: rest, locked := none }) rfl d4' _ hsteps
end Ends
section Bodies
variable {l : Launch}
theorem vx_ofW {y : MethodName} {ws ws' : List Cond} {rm : Room} {Pc : Array Value → State → Prop} {Qc : Array Value → State → Outcome → State → Prop} {XC : String → State → State → Prop} {mc ms : Nat} {free : Addr → Prop} {cc : ByteArray} {maxL : Nat} {ret : Option FieldType}
    (hy : plainName y.cls = true) (hw : ws = Cond.code y cc maxL ret :: ws')
    (body : ∀ p e s m args below meth c s₁, BodyLoose p l y (headSpec ws rm) cc maxL ret e s m args below meth c s₁ → c.maxLocals = maxL → (∀ x ∈ c.exceptionTable.toList, False) → Pc args s →
      W p l e (headSpec ws rm).room s m args below meth c s.heap [] 0 0 (vx_MQ below Qc XC args s mc ms free) (entryFrame m args maxL)) : vx_Met l y ws rm Pc Qc XC mc ms free := by
  refine MetFree.of_bodyS (code := cc) (maxLocals := maxL) (ret := ret) hy ?_ ?_
  · intro args s m h hn
    obtain ⟨meth, c, h1, h2, h3, h4, h5, h6, -, -⟩ := Cond.code_spec hn (atoms_spec (ws := ws) h _ (by rw [hw]; exact List.mem_cons_self))
    exact ⟨meth, c, h1, h2, h3, h4, h5, h6⟩
  · intro p e s m args below meth c s₁ B hml hP _
    have hh0 : s₁.heap = s.heap := by rw [B.state]; rfl
    have ht : ∀ x ∈ c.exceptionTable.toList, False := by
      obtain ⟨meth9, c9, h1, h2, -, -, -, -, h7, -⟩ := Cond.code_spec B.named (atoms_spec (ws := ws) B.pre _ (by rw [hw]; exact List.mem_cons_self))
      cases Option.some.inj (h1.symm.trans B.method)
      cases Option.some.inj (h2.symm.trans (Stand.of_body B).code)
      intro x hx
      rw [Array.isEmpty_iff.mp h7] at hx
      cases hx
    obtain ⟨t, a1, o, b1, b2, b3⟩ := body p e s m args below meth c s₁ B hml ht hP s₁ hh0 (Stand.of_body B)
    exact ⟨t, o, a1, b1, b2, b3⟩
/-- the table of a body with handlers -/
theorem vx_table {p : Program} {x y : MethodName} {S : Spec} {cc bytes : ByteArray} {maxL maxL' : Nat} {ret ret' : Option FieldType} {e : Env} {s s₁ : State} {m : MethodId} {args : Array Value} {below : List Frame} {meth : Method} {c : Code} {hh : List (Nat × Nat × Nat × Nat)}
    (B : BodyLoose p l y S cc maxL ret e s m args below meth c s₁) (h : (Cond.codeWith y bytes maxL' ret' hh).before args s = true) : c.exceptionTable.toList = tableOf hh := by
  obtain ⟨m9, meth9, c9, hn9, h1, h2, -, -, h6, -⟩ := Cond.codeWith_spec h
  cases Option.some.inj (hn9.symm.trans B.named)
  cases Option.some.inj (h1.symm.trans B.method)
  cases Option.some.inj (h2.symm.trans (Stand.of_body B).code)
  rw [← h6, table_eq]
end Bodies
end VXA
/-! ===== END ===== -/
/-! ===== BEGIN a static call of a method with an exception table ===== -/
section VXS
variable {p : Program} {l : Launch} {e : Env} {R : Room} {s : State} {m : MethodId} {args : Array Value} {below : List Frame} {meth : Method} {c : Code} {T : State} {H : Heap} {locs : List Loc} {cells slots : Nat}
abbrev vx_CSW (R : Room) (s : State) (args : Array Value) (own : String) (index : Nat) (y : MethodName) (bytes : ByteArray) (maxL : Nat) (ret : Option FieldType) (hh : List (Nat × Nat × Nat × Nat)) (ws : List Cond) (rm : Room) (mc ms n : Nat) : Prop :=
  (rm.cells = mc ∧ rm.slots = ms ∧ rm.frames + 1 ≤ R.frames ∧ 8 + (maxL + 11) + rm.locals ≤ R.locals ∧ (∀ w ∈ ws, ∀ (a' : Array Value) (U : State), s.WarmedH U.vm → w.before a' U = true) ∧ Cond.codeWith y bytes maxL ret hh ∈ ws) ∧
  (Cond.codeWith y bytes maxL ret hh).before args s = true ∧ (Cond.initialized y.cls).before args s = true ∧ (y.cls ≠ "java/lang/invoke/MethodHandle" ∧ y.cls ≠ "java/lang/invoke/VarHandle") ∧
  (∀ sig, parseMethodDescriptor y.desc = some sig → n = sig.parameters.length) ∧ (Cond.methodLink own index y).before args s = true ∧ (Cond.static y).before args s = true
theorem vx_cwSW {own : String} {index maxL mc ms : Nat} {y : MethodName} {bytes : ByteArray} {ret : Option FieldType} {hh : List (Nat × Nat × Nat × Nat)} {Ts ws ws' : List Cond} {rm : Room} (n : Nat) (ht : ∀ w ∈ Ts, w.before args s = true) (hT : GoodIn Ts (va_wsS own index y ws)) (hw : ws = Cond.codeWith y bytes maxL ret hh :: ws') (hrc : rm.cells = mc) (hrs : rm.slots = ms)
    (hd : y.cls ≠ "java/lang/invoke/MethodHandle" ∧ y.cls ≠ "java/lang/invoke/VarHandle" ∧ (parseMethodDescriptor y.desc).map (fun d => d.parameters.length) = some n) (hR : rm.frames + 1 ≤ R.frames ∧ 8 + (maxL + 11) + rm.locals ≤ R.locals) :
    vx_CSW R s args own index y bytes maxL ret hh ws rm mc ms n := by
  have ok : ∀ w ∈ va_wsS own index y ws, w.before args s = true := fun w h => ht w (hT w h).1
  have hG : GoodIn Ts ws := fun w h => hT w (by unfold va_wsS; exact List.mem_append_right _ h)
  have hc : Cond.codeWith y bytes maxL ret hh ∈ ws := by rw [hw]; exact List.mem_cons_self
  refine ⟨⟨hrc, hrs, hR.1, hR.2, pay_in ht hG, hc⟩, ht _ (hG _ hc).1, ok _ (by simp [va_wsS]), ⟨hd.1, hd.2.1⟩, fun sig h => ?_, ok _ (by simp [va_wsS]), ok _ (by simp [va_wsS])⟩
  have h2 := hd.2.2
  rw [h] at h2
  exact (Option.some.inj h2).symm
theorem vx_callSW (X : Stand p l e R s m args below meth c T locs cells slots) (hexec : p.tables.exec = Jvm.exec) {own : String} {index : Nat} {y : MethodName} {bytes : ByteArray} {maxL : Nat} {ret : Option FieldType} {hh : List (Nat × Nat × Nat × Nat)}
    (hown : s.vm.findClass own = some m.cls) (hlink : (Cond.methodLink own index y).before args s = true) (hstat : (Cond.static y).before args s = true) (hinit : (Cond.initialized y.cls).before args s = true)
    (hcode : (Cond.codeWith y bytes maxL ret hh).before args s = true) (hy : y.cls ≠ "java/lang/invoke/MethodHandle" ∧ y.cls ≠ "java/lang/invoke/VarHandle")
    {W9 : Nat} {Pre : Pt → Array Value → Prop} {Post : Pt → Array Value → Option Value → Pt → Prop} (hK : Back l R p e below s args y 3 W9 Pre Post)
    {g : JFrame} (hg : g.method = m) (hsize : g.locals.size = c.maxLocals) {argsL rest : List Value} (hlen : ∀ sig, parseMethodDescriptor y.desc = some sig → argsL.length = sig.parameters.length)
    (hstack : g.stack = argsL.reverse ++ rest) (hW : 2 * g.monitorRoom + (rest.map fun v => v.category).sum ≤ W9) (hdg : decode c.code g.pc = .ok (.invokestatic index, 3))
    (hpre : ∀ vm₁, s.WarmedH vm₁ → Pre ⟨T.setVm vm₁, locs, cells, slots⟩ argsL.toArray) :
    ∃ (v : Option Value) (vm₁ : Vm) (B : Pt), s.WarmedH vm₁ ∧ Stand p l e R s m args below meth c B.U B.locs B.cells B.slots ∧ Post ⟨T.setVm vm₁, locs, cells, slots⟩ argsL.toArray v B ∧
      ∀ target, Steps p.tables e below (B.U.setTop { g with pc := g.pc + 3, stack := v.toList ++ rest }) target → Steps p.tables e below (T.setTop g) target := by
  obtain ⟨mk, methM, cM, hnamed, hmethM, -, -, -, -, -, -, hsigM⟩ := Cond.codeWith_spec hcode
  have hstatic : methM.isStatic = true := Cond.static_spec hnamed hmethM hstat
  obtain ⟨kP, hkP, -⟩ := className_of_methodNamed hnamed
  have hinitP : kP.init = .initialized := Cond.initialized_spec (findClass_of_methodNamed hnamed) hkP hinit
  obtain ⟨vm₁, X₁, hstep₁⟩ := X.invokestatic hexec hown hlink hnamed hmethM hstatic hkP hinitP hy (g := g) hg (argsL := argsL) (rest := rest) (hlen _ hsigM) hstack hdg
  obtain ⟨v, B, X', hpost, hsteps⟩ := hK m meth c ⟨T.setVm vm₁, locs, cells, slots⟩ { g with stack := rest } (.invokestatic index) mk argsL.toArray X₁ hg hsize hdg hW (X₁.named hnamed) (hpre vm₁ X₁.warmed)
  exact ⟨v, vm₁, B, X₁.warmed, X', hpost, fun target h => hstep₁ _ fun acts => by rw [doInvoke_state]; exact hsteps.trans h⟩
theorem vx_runSW {y : MethodName} {bytes cc : ByteArray} {maxL nL mc ms n index : Nat} {ret : Option FieldType} {hh : List (Nat × Nat × Nat × Nat)} {ws : List Cond} {rm : Room} {Pc : Array Value → State → Prop} {Qc : Array Value → State → Outcome → State → Prop} {free : Addr → Prop} {Ts : List Cond} {own : String} {As rest : List Value} {g : JFrame}
    (S : CallFix p m c cc nL s args Ts own) (hM : Met l y ws rm Pc Qc mc ms free) (cw : vx_CSW R s args own index y bytes maxL ret hh ws rm mc ms n) (hp : PreS s H Pc As)
    (hg : g.method = m) (hn : As.length = n) (hsize : g.locals.size = nL) (hstack : g.stack = As.reverse ++ rest) (hW : 2 * g.monitorRoom + (rest.map fun v => v.category).sum ≤ 8) (hdg : decode cc g.pc = .ok (.invokestatic index, 3)) (hf : cells + mc ≤ R.cells ∧ slots + ms ≤ R.slots) :
    va_Run p l e R s m args below meth c H locs cells slots mc ms g rest (Qc As.toArray) (free) := by
  obtain ⟨⟨hrc, hrs, hfr, hlo, hws, hcw⟩, hcode, hini, hy, hlen, hl, hstt⟩ := cw
  have hK : Back l R p e below s args y 3 8 (PreOf R mc ms Pc) (PostOf Qc mc ms free) := va_backW (hh := hh) (bytes := bytes) (maxL := maxL) (ret := ret) hM hp.1 hrc hrs hfr hlo hws hcw (fun a' U hW => word_at hW (Or.inl (by first | rfl | simp [Cond.onTables, Cond.keeps, Cond.steady])) hini)
  obtain ⟨hx, hb, hml, ho, -⟩ := S
  intro T hT X
  obtain ⟨v, vm₁, ⟨U', l2, c2, s2⟩, hW₁, X', ⟨g', mk, t, L, e1, e2, hq, h1, hL, h2, h3⟩, st⟩ := vx_callSW X hx (hh := hh) (bytes := bytes) (maxL := maxL) (ret := ret) ho hl hstt hini hcode hy hK hg (hsize.trans hml.symm) (argsL := As) (rest := rest) (fun sig h => hn.trans (hlen sig h)) hstack hW (by rw [hb]; exact hdg)
    (fun vm₁ hW₁ => ⟨hf.1, hf.2, hp.2 (T.setVm vm₁) hT hW₁⟩)
  dsimp only [Pt.U, Pt.locs, Pt.cells, Pt.slots] at X' e1 e2 h1 h2 h3 st
  subst h1; subst h2; subst h3
  exact ⟨v, (T.setVm vm₁).calling g' mk As.toArray, t, U', L, hT, X', hL, e1, e2, hq, st⟩
/-- not caught here, past rows that name other classes: it goes on to the caller -/
theorem vx_outP {p : Program} {l : Launch} {e : Env} {R : Room} {s : State} {m : MethodId} {args : Array Value} {below : List Frame} {meth : Method} {c : Code} {H : Heap} {locs : List Loc} {cells slots : Nat} {free : Addr → Prop} {ls : Array Slot} {rest : List Value} {Qc : Array Value → State → Outcome → State → Prop} {XC : String → State → State → Prop}
    {pc : Nat} {own E : String} {ce : Cell} {q : Addr} {mc ms : Nat} (hown : s.vm.findClass own = some m.cls) (hlocks : meth.locks = false)
    (hpass : ∀ z ∈ c.exceptionTable.toList, covers z pc = false ∨ (z.catchType ≠ 0 ∧ ∃ nm : String, (Cond.classLink own z.catchType nm).before args s = true ∧ va_Nc E nm s)) (hcell : H[q]? = some ce) (hv : ce.vm = .none) (hcl : s.vm.findClass E = some ce.cls)
    (hx : ∀ t : State, t.heap = H → s.vm.Alike t.vm → XC E s t) (hf : ∀ z ∈ locs, free z.base) (hc : cells ≤ mc) (hs : slots ≤ ms) :
    vx_W p l e R s m args below meth c H locs cells slots (vx_MQ below Qc XC args s mc ms free) (F0 m pc ls rest) q := by
  intro T hT X
  have hpl : e.platform.magicAccessors = ({} : Platform).magicAccessors := by rw [X.admits.platform]
  obtain ⟨vm', hW', X', st⟩ := Stand.outThrough X hlocks q (g := F0 m pc ls rest) rfl rfl rfl (cell := ce) (by rw [hT]; exact hcell) (by rw [hv]; rfl)
    (by obtain ⟨k9, h9, -⟩ := Vm.findClass_spec hcl; exact ⟨k9, h9⟩) (fun z hz => by
      rcases hpass z hz with h | ⟨hz0, nm, hl1, hn1⟩
      · exact Or.inl h
      · obtain ⟨c6, hc6, hcl6⟩ := Cond.classLink_spec hown hl1 e.platform hpl
        obtain ⟨a8, b8, h1, h2, h3⟩ := hn1
        cases Option.some.inj (h1.symm.trans hcl)
        cases Option.some.inj (h2.symm.trans hc6)
        exact Or.inr ⟨hz0, _, hcl6, h3⟩)
  obtain ⟨g₀, hfr⟩ := X'.frames_eq
  have hcell9 : ((T.setVm vm').setFrames (.throwing q :: below)).heap[q]? = some ce := by
    show T.heap[q]? = some ce
    rw [hT]; exact hcell
  have hend : Ended ((T.setVm vm').setFrames (.throwing q :: below)) below (.threw q) := State.frames_setFrames _ (State.cur_lt_of_frames hfr)
  refine ⟨(T.setVm vm').setFrames (.throwing q :: below), ?_, .threw q, X'.here.running, hend, Or.inr ⟨q, rfl, E, ce, locs, hx _ hT (X'.ends _).1.alike, hcell9, hv, hcl, (X'.ends _).1, (X'.ends _).2.mono hc hs, hf⟩⟩
  rw [X.pushThrowing_eq]
  exact st
/-- a thing of a world lies in the heap -/
theorem vx_lt {D : va_G} {cl : List vw_C} {ws : va_W} {H1 : Heap} (h : va_P D cl ws H1) {k : Nat} {q : Nat × va_E} (hk : ws[k]? = some q) : q.1 < H1.size := (h k q hk).lt
end VXS
/-! ===== END ===== -/
/-! ===== BEGIN methods with a table of their own: called by a name, returning or throwing ===== -/
section VXH
/-! vx_backW, vx_callVX, vx_callSX, vx_callVW, vx_runVW, vx_runVX, vx_runSX, vx_ofWH follow the same proofs as their sisters above (Free/Laws.lean, Shelf42/LK1.lean); vx_outP calls Shelf42/NT130.lean (outThrough). -/
section
variable {l : Launch} {R : Room} {p : Program} {e : Env} {below : List Frame} {s : State} {sargs : Array Value} {y : MethodName} {len W9 : Nat}
theorem vx_backW {ws : List Cond} {rm : Room} {Pc : Array Value → State → Prop} {Qc : Array Value → State → Outcome → State → Prop} {XC : String → State → State → Prop} {mc ms : Nat} {free : Addr → Prop} {bytes : ByteArray} {maxL : Nat} {ret : Option FieldType} {hh : List (Nat × Nat × Nat × Nat)}
    (hM : vx_Met l y ws rm Pc Qc XC mc ms free) (hblind : FrameBlind Pc) (hrc : rm.cells = mc) (hrs : rm.slots = ms)
    (hframes : rm.frames + 1 ≤ R.frames) (hlocals : W9 + (maxL + 11) + rm.locals ≤ R.locals)
    (hws : ∀ w ∈ ws, ∀ a' U, s.WarmedH U.vm → w.before a' U = true) (hcode : Cond.codeWith y bytes maxL ret hh ∈ ws) (hinit : ∀ a' U, s.WarmedH U.vm → (Cond.initialized y.cls).before a' U = true) :
    vx_Back l R p e below s sargs y len W9 (PreOf R mc ms Pc) (PostOf Qc mc ms free) (vx_Post XC mc ms free) := by
  intro m meth c A g ig mk a X hg hsize hdg hW hn hp
  have h1 : (headSpec ws rm).pre.before a A.U = true := atoms_intro fun w hw => hws w hw _ _ X.warmed
  have h2 : (Cond.codeWith y bytes maxL ret hh).before a A.U = true := hws _ hcode _ _ X.warmed
  have h3 : (Cond.initialized y.cls).before a A.U = true := hinit _ _ X.warmed
  have h4 : A.cells + (headSpec ws rm).room.cells ≤ R.cells := by rw [show (headSpec ws rm).room.cells = mc from hrc]; exact hp.1
  have h5 : A.slots + (headSpec ws rm).room.slots ≤ R.slots := by rw [show (headSpec ws rm).room.slots = ms from hrs]; exact hp.2.1
  have hPc : Pc a (A.U.calling g mk a) := hblind _ _ _ _ hp.2.2
  obtain ⟨U, Ls, c0, s0⟩ := A
  dsimp only [Pt.U, Pt.locs, Pt.cells, Pt.slots] at h1 h2 h3 h4 h5 X hn hPc ⊢
  obtain ⟨m9, methY, cY, hn9, hmY, hcY, -, hlY, -⟩ := Cond.codeWith_spec h2
  cases Option.some.inj (hn9.symm.trans hn)
  obtain ⟨kY, hkY, -⟩ := className_of_methodNamed hn
  have hinitY : kY.init = .initialized := Cond.initialized_spec (findClass_of_methodNamed hn) hkY h3
  have h : At U g.method c below := by rw [hg]; exact X.here
  have hlocals9 : W9 + (maxL + 11) + (headSpec ws rm).room.locals ≤ R.locals := hlocals
  have happ : (headSpec ws rm).appliesLoose y e.platform (U.calling g mk a) = true :=
    Spec.appliesLoose_calling (g := g) h hdg hn hkY hinitY
      (X.room_calling (g := g) (R' := (headSpec ws rm).room) hsize hmY hcY hframes (by rw [hlY]; omega) h4 h5) h1
  obtain ⟨mid, hmid⟩ := h.above
  have hfr : (U.setTop g).frames = (.java g :: mid) ++ below := by rw [State.frames_setTop' g h.top, hmid]; rfl
  obtain ⟨o, s₂, hsteps, -, hend, hq⟩ := Steps.callFree hM p X.admits X.cas X.clock (acts := []) hfr happ hPc trivial
  have hq' : vx_Q Qc XC mc ms free a (U.calling g mk a) o s₂ := hq
  rw [State.frames_setTop' g h.top] at hend
  obtain ⟨g₀, hg0⟩ := Option.isSome_iff_exists.mp h.top
  obtain ⟨r, hr⟩ := State.topJava?_eq_some.mp hg0
  have hr' : (({ U with heap := s₂.heap, slotsUsed := s₂.slotsUsed } : State).setVm s₂.vm).frames = .java g₀ :: r := hr
  rcases hq' with ⟨hqc, L, hfe, hL⟩ | ⟨q, rfl, E, ce, L, hx, hce, hcv, hcl, hW₂, hsm, hL⟩
  · obtain ⟨⟨v, rfl⟩, hW₂, e2, q2, q3, q4, q5, q6⟩ := id hfe
    have e3 : s₂ = ({ (U.calling g mk a).setFrames s₂.frames with heap := s₂.heap, slotsUsed := s₂.slotsUsed } : State).setVm s₂.vm := by
      have : s₂ = ({ s₂ with vm := (U.calling g mk a).vm } : State).setVm s₂.vm := rfl
      rw [e2] at this
      exact this
    obtain ⟨c₂, i₂, len₂, hc₂, hd₂, hf₂⟩ := hend
    have hW' : U.WarmedH s₂.vm := hW₂
    have hcc : c₂ = c := by
      have h1 : s₂.code? g.method = U.code? g.method := by
        rw [State.code?_eq, State.code?_eq, hW'.alike.method?]
      exact Option.some.inj (hc₂.symm.trans (h1.trans h.code))
    subst hcc
    have hlen : len₂ = len := by rw [hdg] at hd₂; cases hd₂; rfl
    subst hlen
    have hs₂ : s₂ = (({ U with heap := s₂.heap, slotsUsed := s₂.slotsUsed } : State).setVm s₂.vm).setTop { g with pc := g.pc + len₂, stack := v.toList ++ g.stack } := by
      refine e3.trans ?_
      rw [hf₂, State.calling_eq h.top, State.setFrames_setFrames, State.setTop_of_frames _ hr', hr]
      rfl
    have hsame : U.sameButNew ({ U with heap := s₂.heap, slotsUsed := s₂.slotsUsed } : State) L mc ms := by
      refine ⟨?_, q2, q3, q4, q5, q6⟩
      obtain ⟨t, ht, -⟩ := State.frames_cons hr
      show ({ U with heap := s₂.heap, slotsUsed := s₂.slotsUsed } : State) = { U.setFrames U.frames with heap := s₂.heap, slotsUsed := s₂.slotsUsed }
      rw [State.setFrames_self ht]
    subst hg
    refine Or.inl ⟨v, ⟨(({ U with heap := s₂.heap, slotsUsed := s₂.slotsUsed } : State).setVm s₂.vm), Ls ++ L, c0 + mc, s0 + ms⟩,
      ⟨X.admits, X.cas, X.clock, X.frames, X.room, X.hears, X.method, X.code, (X.here.setHeapUsed s₂.heap s₂.slotsUsed).setVm hW'.alike, X.tail, State.WarmedH.trans X.warmed hW', X.limits, X.bytes, X.same.trans (hsame.setVm s.vm)⟩,
      ⟨g, mk, s₂, L, rfl, rfl, hqc, rfl, hL, rfl, rfl⟩, ?_⟩
    show Steps p.tables e below _ ((({ U with heap := s₂.heap, slotsUsed := s₂.slotsUsed } : State).setVm s₂.vm).setTop { g with pc := g.pc + len₂, stack := v.toList ++ g.stack })
    rw [← hs₂]
    exact hsteps
  · obtain ⟨e2, q2, q3, q4, q5, q6⟩ := id hsm
    have e3 : s₂ = ({ (U.calling g mk a).setFrames s₂.frames with heap := s₂.heap, slotsUsed := s₂.slotsUsed } : State).setVm s₂.vm := by
      have : s₂ = ({ s₂ with vm := (U.calling g mk a).vm } : State).setVm s₂.vm := rfl
      rw [e2] at this
      exact this
    have hf₂ : s₂.frames = .throwing q :: .java g :: U.frames.tail := hend
    have hW' : U.WarmedH s₂.vm := hW₂
    have hs₂ : s₂ = ((({ U with heap := s₂.heap, slotsUsed := s₂.slotsUsed } : State).setVm s₂.vm).setTop g).pushFrame (.throwing q) := by
      refine e3.trans ?_
      rw [hf₂, State.calling_eq h.top, State.setFrames_setFrames, State.pushFrame, State.frames_setTop _ hr', State.setTop_of_frames _ hr', State.setFrames_setFrames, hr]
      rfl
    have hsame : U.sameButNew ({ U with heap := s₂.heap, slotsUsed := s₂.slotsUsed } : State) L mc ms := by
      refine ⟨?_, q2, q3, q4, q5, q6⟩
      obtain ⟨t, ht, -⟩ := State.frames_cons hr
      show ({ U with heap := s₂.heap, slotsUsed := s₂.slotsUsed } : State) = { U.setFrames U.frames with heap := s₂.heap, slotsUsed := s₂.slotsUsed }
      rw [State.setFrames_self ht]
    subst hg
    refine Or.inr ⟨q, ⟨(({ U with heap := s₂.heap, slotsUsed := s₂.slotsUsed } : State).setVm s₂.vm), Ls ++ L, c0 + mc, s0 + ms⟩,
      ⟨X.admits, X.cas, X.clock, X.frames, X.room, X.hears, X.method, X.code, (X.here.setHeapUsed s₂.heap s₂.slotsUsed).setVm hW'.alike, X.tail, State.WarmedH.trans X.warmed hW', X.limits, X.bytes, X.same.trans (hsame.setVm s.vm)⟩,
      ⟨g, mk, s₂, L, E, ce, rfl, rfl, hx, hce, hcv, hcl, rfl, hL, rfl, rfl⟩, ?_⟩
    show Steps p.tables e below _ (((({ U with heap := s₂.heap, slotsUsed := s₂.slotsUsed } : State).setVm s₂.vm).setTop g).pushFrame (.throwing q))
    rw [← hs₂]
    exact hsteps
end
variable {p : Program} {l : Launch} {e : Env} {R : Room} {s : State} {m : MethodId} {args : Array Value} {below : List Frame} {meth : Method} {c : Code} {T : State} {H : Heap} {locs : List Loc} {cells slots : Nat}
theorem vx_callVX (X : Stand p l e R s m args below meth c T locs cells slots) (hexec : p.tables.exec = Jvm.exec) {own C : String} {index : Nat} {y : MethodName} {bytes : ByteArray} {maxL : Nat} {ret : Option FieldType} {hh : List (Nat × Nat × Nat × Nat)}
    (hown : s.vm.findClass own = some m.cls) (hlink : (Cond.methodLink own index y).before args s = true) (hinst : (Cond.instanceMethod y).before args s = true) (hsel : (Cond.selects C y y).before args s = true)
    (hcode : (Cond.codeWith y bytes maxL ret hh).before args s = true) (hy : y.cls ≠ "java/lang/invoke/MethodHandle" ∧ y.cls ≠ "java/lang/invoke/VarHandle")
    {W9 : Nat} {Pre : Pt → Array Value → Prop} {Post : Pt → Array Value → Option Value → Pt → Prop} {PostX : Pt → Array Value → Addr → Pt → Prop} (hK : vx_Back l R p e below s args y 3 W9 Pre Post PostX)
    {b : Addr} {cellB : Cell} (hcell : T.heap[b]? = some cellB) (hobj : cellB.vm.isStatics = false) (hcls : s.vm.findClass C = some cellB.cls)
    {g : JFrame} (hg : g.method = m) (hsize : g.locals.size = c.maxLocals) {argsL rest : List Value} (hlen : ∀ sig, parseMethodDescriptor y.desc = some sig → argsL.length = sig.parameters.length)
    (hstack : g.stack = argsL.reverse ++ .ref b :: rest) (hW : 2 * g.monitorRoom + (rest.map fun v => v.category).sum ≤ W9) (hdg : decode c.code g.pc = .ok (.invokevirtual index, 3))
    (hpre : ∀ vm₁, s.WarmedH vm₁ → Pre ⟨T.setVm vm₁, locs, cells, slots⟩ (Value.ref b :: argsL).toArray) :
    (∃ (v : Option Value) (vm₁ : Vm) (B : Pt), s.WarmedH vm₁ ∧ Stand p l e R s m args below meth c B.U B.locs B.cells B.slots ∧ Post ⟨T.setVm vm₁, locs, cells, slots⟩ (Value.ref b :: argsL).toArray v B ∧
      ∀ target, Steps p.tables e below (B.U.setTop { g with pc := g.pc + 3, stack := v.toList ++ rest }) target → Steps p.tables e below (T.setTop g) target) ∨
    (∃ (q : Addr) (vm₁ : Vm) (B : Pt), s.WarmedH vm₁ ∧ Stand p l e R s m args below meth c B.U B.locs B.cells B.slots ∧ PostX ⟨T.setVm vm₁, locs, cells, slots⟩ (Value.ref b :: argsL).toArray q B ∧
      Steps p.tables e below (T.setTop g) ((B.U.setTop { g with stack := rest }).pushFrame (.throwing q))) := by
  obtain ⟨mk, methM, hnamed, hmethM, hstM, habM⟩ := Cond.instanceMethod_spec hinst
  obtain ⟨m8, methM', cM, hn8, hmethM', -, -, -, -, -, -, hsigM⟩ := Cond.codeWith_spec hcode
  cases Option.some.inj (hn8.symm.trans hnamed)
  cases hmethM.symm.trans hmethM'
  obtain ⟨c2, r2, m2, q1, q2, q3, q4, kP, hkP, hkPi⟩ := Cond.selects_spec hsel
  cases hcls.symm.trans q1
  cases (State.methodFound?_of_named hnamed hy).symm.trans q2
  cases hnamed.symm.trans q3
  have hselP : selectMethod e.platform s.vm cellB.cls mk = .method mk := by rw [Launch.admits_selectMethod X.admits]; exact q4
  obtain ⟨vm₁, X₁, hstep₁⟩ := X.invokevirtual hexec hown hlink hnamed hmethM hstM hkP hkPi hy (a := b) (cell := cellB) hcell
    (fun z h => by rw [h] at hobj; cases hobj) hselP hmethM habM hkP hkPi (g := g) hg (argsL := argsL) (rest := rest) (hlen _ hsigM) hstack hdg
  rcases hK m meth c ⟨T.setVm vm₁, locs, cells, slots⟩ { g with stack := rest } (.invokevirtual index) mk (Value.ref b :: argsL).toArray X₁ hg hsize hdg hW (X₁.named hnamed) (hpre vm₁ X₁.warmed) with ⟨v, B, X', hpost, hsteps⟩ | ⟨q, B, X', hpost, hsteps⟩
  · exact Or.inl ⟨v, vm₁, B, X₁.warmed, X', hpost, fun target h => hstep₁ _ fun acts => by rw [doInvoke_state]; exact hsteps.trans h⟩
  · exact Or.inr ⟨q, vm₁, B, X₁.warmed, X', hpost, hstep₁ _ fun acts => by rw [doInvoke_state]; exact hsteps⟩
theorem vx_callSX (X : Stand p l e R s m args below meth c T locs cells slots) (hexec : p.tables.exec = Jvm.exec) {own : String} {index : Nat} {y : MethodName} {bytes : ByteArray} {maxL : Nat} {ret : Option FieldType} {hh : List (Nat × Nat × Nat × Nat)}
    (hown : s.vm.findClass own = some m.cls) (hlink : (Cond.methodLink own index y).before args s = true) (hstat : (Cond.static y).before args s = true) (hinit : (Cond.initialized y.cls).before args s = true)
    (hcode : (Cond.codeWith y bytes maxL ret hh).before args s = true) (hy : y.cls ≠ "java/lang/invoke/MethodHandle" ∧ y.cls ≠ "java/lang/invoke/VarHandle")
    {W9 : Nat} {Pre : Pt → Array Value → Prop} {Post : Pt → Array Value → Option Value → Pt → Prop} {PostX : Pt → Array Value → Addr → Pt → Prop} (hK : vx_Back l R p e below s args y 3 W9 Pre Post PostX)
    {g : JFrame} (hg : g.method = m) (hsize : g.locals.size = c.maxLocals) {argsL rest : List Value} (hlen : ∀ sig, parseMethodDescriptor y.desc = some sig → argsL.length = sig.parameters.length)
    (hstack : g.stack = argsL.reverse ++ rest) (hW : 2 * g.monitorRoom + (rest.map fun v => v.category).sum ≤ W9) (hdg : decode c.code g.pc = .ok (.invokestatic index, 3))
    (hpre : ∀ vm₁, s.WarmedH vm₁ → Pre ⟨T.setVm vm₁, locs, cells, slots⟩ argsL.toArray) :
    (∃ (v : Option Value) (vm₁ : Vm) (B : Pt), s.WarmedH vm₁ ∧ Stand p l e R s m args below meth c B.U B.locs B.cells B.slots ∧ Post ⟨T.setVm vm₁, locs, cells, slots⟩ argsL.toArray v B ∧
      ∀ target, Steps p.tables e below (B.U.setTop { g with pc := g.pc + 3, stack := v.toList ++ rest }) target → Steps p.tables e below (T.setTop g) target) ∨
    (∃ (q : Addr) (vm₁ : Vm) (B : Pt), s.WarmedH vm₁ ∧ Stand p l e R s m args below meth c B.U B.locs B.cells B.slots ∧ PostX ⟨T.setVm vm₁, locs, cells, slots⟩ argsL.toArray q B ∧
      Steps p.tables e below (T.setTop g) ((B.U.setTop { g with stack := rest }).pushFrame (.throwing q))) := by
  obtain ⟨mk, methM, cM, hnamed, hmethM, -, -, -, -, -, -, hsigM⟩ := Cond.codeWith_spec hcode
  have hstatic : methM.isStatic = true := Cond.static_spec hnamed hmethM hstat
  obtain ⟨kP, hkP, -⟩ := className_of_methodNamed hnamed
  have hinitP : kP.init = .initialized := Cond.initialized_spec (findClass_of_methodNamed hnamed) hkP hinit
  obtain ⟨vm₁, X₁, hstep₁⟩ := X.invokestatic hexec hown hlink hnamed hmethM hstatic hkP hinitP hy (g := g) hg (argsL := argsL) (rest := rest) (hlen _ hsigM) hstack hdg
  rcases hK m meth c ⟨T.setVm vm₁, locs, cells, slots⟩ { g with stack := rest } (.invokestatic index) mk argsL.toArray X₁ hg hsize hdg hW (X₁.named hnamed) (hpre vm₁ X₁.warmed) with ⟨v, B, X', hpost, hsteps⟩ | ⟨q, B, X', hpost, hsteps⟩
  · exact Or.inl ⟨v, vm₁, B, X₁.warmed, X', hpost, fun target h => hstep₁ _ fun acts => by rw [doInvoke_state]; exact hsteps.trans h⟩
  · exact Or.inr ⟨q, vm₁, B, X₁.warmed, X', hpost, hstep₁ _ fun acts => by rw [doInvoke_state]; exact hsteps⟩
theorem vx_callVW (X : Stand p l e R s m args below meth c T locs cells slots) (hexec : p.tables.exec = Jvm.exec) {own C : String} {index : Nat} {y : MethodName} {bytes : ByteArray} {maxL : Nat} {ret : Option FieldType} {hh : List (Nat × Nat × Nat × Nat)}
    (hown : s.vm.findClass own = some m.cls) (hlink : (Cond.methodLink own index y).before args s = true) (hinst : (Cond.instanceMethod y).before args s = true) (hsel : (Cond.selects C y y).before args s = true)
    (hcode : (Cond.codeWith y bytes maxL ret hh).before args s = true) (hy : y.cls ≠ "java/lang/invoke/MethodHandle" ∧ y.cls ≠ "java/lang/invoke/VarHandle")
    {W9 : Nat} {Pre : Pt → Array Value → Prop} {Post : Pt → Array Value → Option Value → Pt → Prop} (hK : Back l R p e below s args y 3 W9 Pre Post)
    {b : Addr} {cellB : Cell} (hcell : T.heap[b]? = some cellB) (hobj : cellB.vm.isStatics = false) (hcls : s.vm.findClass C = some cellB.cls)
    {g : JFrame} (hg : g.method = m) (hsize : g.locals.size = c.maxLocals) {argsL rest : List Value} (hlen : ∀ sig, parseMethodDescriptor y.desc = some sig → argsL.length = sig.parameters.length)
    (hstack : g.stack = argsL.reverse ++ .ref b :: rest) (hW : 2 * g.monitorRoom + (rest.map fun v => v.category).sum ≤ W9) (hdg : decode c.code g.pc = .ok (.invokevirtual index, 3))
    (hpre : ∀ vm₁, s.WarmedH vm₁ → Pre ⟨T.setVm vm₁, locs, cells, slots⟩ (Value.ref b :: argsL).toArray) :
    ∃ (v : Option Value) (vm₁ : Vm) (B : Pt), s.WarmedH vm₁ ∧ Stand p l e R s m args below meth c B.U B.locs B.cells B.slots ∧ Post ⟨T.setVm vm₁, locs, cells, slots⟩ (Value.ref b :: argsL).toArray v B ∧
      ∀ target, Steps p.tables e below (B.U.setTop { g with pc := g.pc + 3, stack := v.toList ++ rest }) target → Steps p.tables e below (T.setTop g) target := by
  obtain ⟨mk, methM, hnamed, hmethM, hstM, habM⟩ := Cond.instanceMethod_spec hinst
  obtain ⟨m8, methM', cM, hn8, hmethM', -, -, -, -, -, -, hsigM⟩ := Cond.codeWith_spec hcode
  cases Option.some.inj (hn8.symm.trans hnamed)
  cases hmethM.symm.trans hmethM'
  obtain ⟨c2, r2, m2, q1, q2, q3, q4, kP, hkP, hkPi⟩ := Cond.selects_spec hsel
  cases hcls.symm.trans q1
  cases (State.methodFound?_of_named hnamed hy).symm.trans q2
  cases hnamed.symm.trans q3
  have hselP : selectMethod e.platform s.vm cellB.cls mk = .method mk := by rw [Launch.admits_selectMethod X.admits]; exact q4
  obtain ⟨vm₁, X₁, hstep₁⟩ := X.invokevirtual hexec hown hlink hnamed hmethM hstM hkP hkPi hy (a := b) (cell := cellB) hcell
    (fun z h => by rw [h] at hobj; cases hobj) hselP hmethM habM hkP hkPi (g := g) hg (argsL := argsL) (rest := rest) (hlen _ hsigM) hstack hdg
  obtain ⟨v, B, X', hpost, hsteps⟩ := hK m meth c ⟨T.setVm vm₁, locs, cells, slots⟩ { g with stack := rest } (.invokevirtual index) mk (Value.ref b :: argsL).toArray X₁ hg hsize hdg hW (X₁.named hnamed) (hpre vm₁ X₁.warmed)
  exact ⟨v, vm₁, B, X₁.warmed, X', hpost, fun target h => hstep₁ _ fun acts => by rw [doInvoke_state]; exact hsteps.trans h⟩
abbrev vx_CVW (R : Room) (s : State) (args : Array Value) (own C : String) (index : Nat) (y : MethodName) (bytes : ByteArray) (maxL : Nat) (ret : Option FieldType) (hh : List (Nat × Nat × Nat × Nat)) (ws : List Cond) (rm : Room) (mc ms n : Nat) : Prop :=
  (rm.cells = mc ∧ rm.slots = ms ∧ rm.frames + 1 ≤ R.frames ∧ 8 + (maxL + 11) + rm.locals ≤ R.locals ∧ (∀ w ∈ ws, ∀ (a' : Array Value) (U : State), s.WarmedH U.vm → w.before a' U = true) ∧ Cond.codeWith y bytes maxL ret hh ∈ ws) ∧
  (Cond.codeWith y bytes maxL ret hh).before args s = true ∧ (Cond.initialized y.cls).before args s = true ∧ (y.cls ≠ "java/lang/invoke/MethodHandle" ∧ y.cls ≠ "java/lang/invoke/VarHandle") ∧
  (∀ sig, parseMethodDescriptor y.desc = some sig → n = sig.parameters.length) ∧ (Cond.methodLink own index y).before args s = true ∧ (Cond.instanceMethod y).before args s = true ∧ (Cond.selects C y y).before args s = true
theorem vx_cwVW {own C : String} {index maxL mc ms : Nat} {y : MethodName} {bytes : ByteArray} {ret : Option FieldType} {hh : List (Nat × Nat × Nat × Nat)} {Ts ws ws' : List Cond} {rm : Room} (n : Nat) (ht : ∀ w ∈ Ts, w.before args s = true) (hT : GoodIn Ts (wsV own index C y ws)) (hw : ws = Cond.codeWith y bytes maxL ret hh :: ws') (hrc : rm.cells = mc) (hrs : rm.slots = ms)
    (hd : y.cls = C ∧ y.cls ≠ "java/lang/invoke/MethodHandle" ∧ y.cls ≠ "java/lang/invoke/VarHandle" ∧ (parseMethodDescriptor y.desc).map (fun d => d.parameters.length) = some n) (hR : rm.frames + 1 ≤ R.frames ∧ 8 + (maxL + 11) + rm.locals ≤ R.locals) :
    vx_CVW R s args own C index y bytes maxL ret hh ws rm mc ms n := by
  obtain ⟨hC, hd⟩ := hd
  subst hC
  have ok : ∀ w ∈ wsV own index y.cls y ws, w.before args s = true := fun w h => ht w (hT w h).1
  have hG : GoodIn Ts ws := fun w h => hT w (by unfold wsV; exact List.mem_append_right _ h)
  have hc : Cond.codeWith y bytes maxL ret hh ∈ ws := by rw [hw]; exact List.mem_cons_self
  refine ⟨⟨hrc, hrs, hR.1, hR.2, pay_in ht hG, hc⟩, ht _ (hG _ hc).1, ok _ (by simp [wsV]), ⟨hd.1, hd.2.1⟩, fun sig h => ?_, ok _ (by simp [wsV]), ok _ (by simp [wsV]), ok _ (by simp [wsV])⟩
  have h2 := hd.2.2
  rw [h] at h2
  exact (Option.some.inj h2).symm
theorem vx_runVW {y : MethodName} {bytes cc : ByteArray} {maxL nL mc ms n index : Nat} {ret : Option FieldType} {hh : List (Nat × Nat × Nat × Nat)} {ws : List Cond} {rm : Room} {Pc : Array Value → State → Prop} {Qc : Array Value → State → Outcome → State → Prop} {free : Addr → Prop} {Ts : List Cond} {own C : String} {b : Addr} {As rest : List Value} {g : JFrame}
    (S : CallFix p m c cc nL s args Ts own) (hM : Met l y ws rm Pc Qc mc ms free) (cw : vx_CVW R s args own C index y bytes maxL ret hh ws rm mc ms n) (hp : PreV s H C b Pc As)
    (hg : g.method = m) (hn : As.length = n) (hsize : g.locals.size = nL) (hstack : g.stack = As.reverse ++ .ref b :: rest) (hW : 2 * g.monitorRoom + (rest.map fun v => v.category).sum ≤ 8) (hdg : decode cc g.pc = .ok (.invokevirtual index, 3)) (hf : cells + mc ≤ R.cells ∧ slots + ms ≤ R.slots) :
    va_Run p l e R s m args below meth c H locs cells slots mc ms g rest (Qc (Value.ref b :: As).toArray) free := by
  obtain ⟨⟨hrc, hrs, hfr, hlo, hws, hcw⟩, hcode, hini, hy, hlen, hl, hin, hse⟩ := cw
  have hK : Back l R p e below s args y 3 8 (PreOf R mc ms Pc) (PostOf Qc mc ms free) := va_backW (hh := hh) (bytes := bytes) (maxL := maxL) (ret := ret) hM hp.1 hrc hrs hfr hlo hws hcw (fun a' U hW => word_at hW (Or.inl (by first | rfl | simp [Cond.onTables, Cond.keeps, Cond.steady])) hini)
  obtain ⟨hx, hb, hml, ho, -⟩ := S
  obtain ⟨-, ⟨cellB, hcB, hoB, hclB⟩, hPc⟩ := hp
  intro T hT X
  obtain ⟨v, vm₁, ⟨U', l2, c2, s2⟩, hW₁, X', ⟨g', mk, t, L, e1, e2, hq, h1, hL, h2, h3⟩, st⟩ := vx_callVW X hx (C := C) (hh := hh) (bytes := bytes) (maxL := maxL) (ret := ret) ho hl hin hse hcode hy hK (by rw [hT]; exact hcB) hoB hclB hg (hsize.trans hml.symm) (argsL := As) (rest := rest) (fun sig h => hn.trans (hlen sig h)) hstack hW (by rw [hb]; exact hdg)
    (fun vm₁ hW₁ => ⟨hf.1, hf.2, hPc (T.setVm vm₁) hT hW₁⟩)
  dsimp only [Pt.U, Pt.locs, Pt.cells, Pt.slots] at X' e1 e2 h1 h2 h3 st
  subst h1; subst h2; subst h3
  exact ⟨v, (T.setVm vm₁).calling g' mk (Value.ref b :: As).toArray, t, U', L, hT, X', hL, e1, e2, hq, st⟩
section
variable {y : MethodName} {bytes cc : ByteArray} {maxL nL mc ms n index : Nat} {ret : Option FieldType} {ws : List Cond} {rm : Room} {Pc : Array Value → State → Prop} {Qc : Array Value → State → Outcome → State → Prop} {XC : String → State → State → Prop} {free : Addr → Prop} {Ts : List Cond} {own C : String} {b : Addr} {As rest : List Value} {g : JFrame}
theorem vx_runVX {hh : List (Nat × Nat × Nat × Nat)} (S : CallFix p m c cc nL s args Ts own) (hM : vx_Met l y ws rm Pc Qc XC mc ms free) (cw : vx_CVW R s args own C index y bytes maxL ret hh ws rm mc ms n) (hp : PreV s H C b Pc As)
    (hg : g.method = m) (hn : As.length = n) (hsize : g.locals.size = nL) (hstack : g.stack = As.reverse ++ .ref b :: rest) (hW : 2 * g.monitorRoom + (rest.map fun v => v.category).sum ≤ 8) (hdg : decode cc g.pc = .ok (.invokevirtual index, 3)) (hf : cells + mc ≤ R.cells ∧ slots + ms ≤ R.slots) :
    vx_Run p l e R s m args below meth c H locs cells slots mc ms g rest (Qc (Value.ref b :: As).toArray) XC free := by
  obtain ⟨⟨hrc, hrs, hfr, hlo, hws, hcw⟩, hcode, hini, hy, hlen, hl, hin, hse⟩ := cw
  have hK : vx_Back l R p e below s args y 3 8 (PreOf R mc ms Pc) (PostOf Qc mc ms free) (vx_Post XC mc ms free) := vx_backW (hh := hh) (bytes := bytes) (maxL := maxL) (ret := ret) hM hp.1 hrc hrs hfr hlo hws hcw (fun a' U hW => word_at hW (Or.inl (by first | rfl | simp [Cond.onTables, Cond.keeps, Cond.steady])) hini)
  obtain ⟨hx, hb, hml, ho, -⟩ := S
  obtain ⟨-, ⟨cellB, hcB, hoB, hclB⟩, hPc⟩ := hp
  intro T hT X
  rcases vx_callVX X hx (C := C) (hh := hh) (bytes := bytes) (maxL := maxL) (ret := ret) ho hl hin hse hcode hy hK (by rw [hT]; exact hcB) hoB hclB hg (hsize.trans hml.symm) (argsL := As) (rest := rest) (fun sig h => hn.trans (hlen sig h)) hstack hW (by rw [hb]; exact hdg)
    (fun vm₁ hW₁ => ⟨hf.1, hf.2, hPc (T.setVm vm₁) hT hW₁⟩) with ⟨v, vm₁, ⟨U', l2, c2, s2⟩, hW₁, X', ⟨g', mk, t, L, e1, e2, hq, h1, hL, h2, h3⟩, st⟩ | ⟨q, vm₁, ⟨U', l2, c2, s2⟩, hW₁, X', ⟨g', mk, t, L, E, ce, e1, e2, hq, hce, hcv, hcl, h1, hL, h2, h3⟩, st⟩
  · dsimp only [Pt.U, Pt.locs, Pt.cells, Pt.slots] at X' e1 e2 h1 h2 h3 st
    subst h1; subst h2; subst h3
    exact Or.inl ⟨v, (T.setVm vm₁).calling g' mk (Value.ref b :: As).toArray, t, U', L, hT, X', hL, e1, e2, hq, st⟩
  · dsimp only [Pt.U, Pt.locs, Pt.cells, Pt.slots] at X' e1 e2 h1 h2 h3 st hcl
    subst h1; subst h2; subst h3
    exact Or.inr ⟨q, (T.setVm vm₁).calling g' mk (Value.ref b :: As).toArray, t, U', L, E, ce, hT, X', hL, e1, e2, hq, hce, hcv, vx_cls hW₁ hcl, st⟩
theorem vx_runSX {hh : List (Nat × Nat × Nat × Nat)} (S : CallFix p m c cc nL s args Ts own) (hM : vx_Met l y ws rm Pc Qc XC mc ms free) (cw : vx_CSW R s args own index y bytes maxL ret hh ws rm mc ms n) (hp : PreS s H Pc As)
    (hg : g.method = m) (hn : As.length = n) (hsize : g.locals.size = nL) (hstack : g.stack = As.reverse ++ rest) (hW : 2 * g.monitorRoom + (rest.map fun v => v.category).sum ≤ 8) (hdg : decode cc g.pc = .ok (.invokestatic index, 3)) (hf : cells + mc ≤ R.cells ∧ slots + ms ≤ R.slots) :
    vx_Run p l e R s m args below meth c H locs cells slots mc ms g rest (Qc As.toArray) XC free := by
  obtain ⟨⟨hrc, hrs, hfr, hlo, hws, hcw⟩, hcode, hini, hy, hlen, hl, hstt⟩ := cw
  have hK : vx_Back l R p e below s args y 3 8 (PreOf R mc ms Pc) (PostOf Qc mc ms free) (vx_Post XC mc ms free) := vx_backW (hh := hh) (bytes := bytes) (maxL := maxL) (ret := ret) hM hp.1 hrc hrs hfr hlo hws hcw (fun a' U hW => word_at hW (Or.inl (by first | rfl | simp [Cond.onTables, Cond.keeps, Cond.steady])) hini)
  obtain ⟨hx, hb, hml, ho, -⟩ := S
  intro T hT X
  rcases vx_callSX X hx (hh := hh) (bytes := bytes) (maxL := maxL) (ret := ret) ho hl hstt hini hcode hy hK hg (hsize.trans hml.symm) (argsL := As) (rest := rest) (fun sig h => hn.trans (hlen sig h)) hstack hW (by rw [hb]; exact hdg)
    (fun vm₁ hW₁ => ⟨hf.1, hf.2, hp.2 (T.setVm vm₁) hT hW₁⟩) with ⟨v, vm₁, ⟨U', l2, c2, s2⟩, hW₁, X', ⟨g', mk, t, L, e1, e2, hq, h1, hL, h2, h3⟩, st⟩ | ⟨q, vm₁, ⟨U', l2, c2, s2⟩, hW₁, X', ⟨g', mk, t, L, E, ce, e1, e2, hq, hce, hcv, hcl, h1, hL, h2, h3⟩, st⟩
  · dsimp only [Pt.U, Pt.locs, Pt.cells, Pt.slots] at X' e1 e2 h1 h2 h3 st
    subst h1; subst h2; subst h3
    exact Or.inl ⟨v, (T.setVm vm₁).calling g' mk As.toArray, t, U', L, hT, X', hL, e1, e2, hq, st⟩
  · dsimp only [Pt.U, Pt.locs, Pt.cells, Pt.slots] at X' e1 e2 h1 h2 h3 st hcl
    subst h1; subst h2; subst h3
    exact Or.inr ⟨q, (T.setVm vm₁).calling g' mk As.toArray, t, U', L, E, ce, hT, X', hL, e1, e2, hq, hce, hcv, vx_cls hW₁ hcl, st⟩
end
end VXH
theorem vx_ofWH {l : Launch} {y : MethodName} {ws ws' : List Cond} {rm : Room} {Pc : Array Value → State → Prop} {Qc : Array Value → State → Outcome → State → Prop} {XC : String → State → State → Prop} {mc ms : Nat} {free : Addr → Prop} {cc : ByteArray} {maxL : Nat} {ret : Option FieldType} {hh : List (Nat × Nat × Nat × Nat)}
    (hy : plainName y.cls = true) (hw : ws = Cond.codeWith y cc maxL ret hh :: ws')
    (body : ∀ p e s m args below meth c s₁, BodyLoose p l y (headSpec ws rm) cc maxL ret e s m args below meth c s₁ → c.maxLocals = maxL → Pc args s →
      W p l e (headSpec ws rm).room s m args below meth c s.heap [] 0 0 (vx_MQ below Qc XC args s mc ms free) (entryFrame m args maxL)) : vx_Met l y ws rm Pc Qc XC mc ms free := by
  refine MetFree.of_bodyS (code := cc) (maxLocals := maxL) (ret := ret) hy ?_ ?_
  · intro args s m h hn
    obtain ⟨m9, meth, c, hn9, h1, h2, h3, h4, -, h5, h6, -⟩ := Cond.codeWith_spec (atoms_spec (ws := ws) h _ (by rw [hw]; exact List.mem_cons_self))
    cases hn.symm.trans hn9
    exact ⟨meth, c, h1, h2, h3, h4, h5, h6⟩
  · intro p e s m args below meth c s₁ B hml hP _
    have hh0 : s₁.heap = s.heap := by rw [B.state]; rfl
    obtain ⟨t, a1, o, b1, b2, b3⟩ := body p e s m args below meth c s₁ B hml hP s₁ hh0 (Stand.of_body B)
    exact ⟨t, o, a1, b1, b2, b3⟩
/-! ===== END ===== -/
end
section
/-! ===== BEGIN printed: names, fields, word lists, decode rows ===== -/
def RX0 : String := "PairFinder$Body"
def TX0 : u_T := fun k => match k with
  | 0 => ("PairFinder$Body", "tight", "LPairFinder$Box;", true)
  | 1 => ("PairFinder$Body", "wide", "LPairFinder$Box;", true)
  | 2 => ("PairFinder$Body", "group", "I", false)
  | 3 => ("PairFinder$Body", "mask", "I", false)
  | 4 => ("PairFinder$Body", "there", "Z", false)
  | _ => ("PairFinder$Body", "touched", "Z", false)
def tyX0 : Nat → FieldType := fun k => match k with
  | 0 => .object "PairFinder$Box"
  | 1 => .object "PairFinder$Box"
  | 2 => .int
  | 3 => .int
  | 4 => .boolean
  | _ => .boolean
abbrev wsX00 : List Cond := u_ws RX0 TX0 6
theorem nmX0 : ∀ a, a < 6 → ∀ b, b < 6 → a ≠ b → (TX0 a).2.1 ≠ (TX0 b).2.1 := by decide +kernel
theorem tyX0_ok : ∀ k, k < 6 → parseFieldDescriptor (TX0 k).2.2.1 = some (tyX0 k) := by decide +kernel
abbrev cX0_init : ByteArray := prog_2_method_1_code
def yX0_init : MethodName := ⟨RX0, "<init>", "()V"⟩
abbrev cX0_appear : ByteArray := prog_2_method_2_code
def yX0_appear : MethodName := ⟨RX0, "appear", "(LPairFinder$Box;II)V"⟩
abbrev cX0_leave : ByteArray := prog_2_method_3_code
def yX0_leave : MethodName := ⟨RX0, "leave", "()V"⟩
abbrev cX0_setFilter : ByteArray := prog_2_method_4_code
def yX0_setFilter : MethodName := ⟨RX0, "setFilter", "(II)V"⟩
abbrev cX0_moveTo : ByteArray := prog_2_method_5_code
def yX0_moveTo : MethodName := ⟨RX0, "moveTo", "(LPairFinder$Box;FFF)Z"⟩
abbrev cX0_pairsWith : ByteArray := prog_2_method_6_code
def yX0_pairsWith : MethodName := ⟨RX0, "pairsWith", "(LPairFinder$Body;)Z"⟩
def RX1 : String := "PairFinder$Box"
def TX1 : u_T := fun k => match k with
  | _ => ("PairFinder$Box", "numbers", "[F", true)
def tyX1 : Nat → FieldType := fun k => match k with
  | _ => .array .float
abbrev wsX10 : List Cond := u_ws RX1 TX1 1
theorem nmX1 : ∀ a, a < 1 → ∀ b, b < 1 → a ≠ b → (TX1 a).2.1 ≠ (TX1 b).2.1 := by decide +kernel
theorem tyX1_ok : ∀ k, k < 1 → parseFieldDescriptor (TX1 k).2.2.1 = some (tyX1 k) := by decide +kernel
abbrev cX1_init : ByteArray := prog_3_method_1_code
def yX1_init : MethodName := ⟨RX1, "<init>", "()V"⟩
abbrev cX1_setCorner : ByteArray := prog_3_method_2_code
def yX1_setCorner : MethodName := ⟨RX1, "setCorner", "(IFFF)V"⟩
abbrev cX1_copyFrom : ByteArray := prog_3_method_3_code
def yX1_copyFrom : MethodName := ⟨RX1, "copyFrom", "(LPairFinder$Box;)V"⟩
abbrev cX1_moveBy : ByteArray := prog_3_method_4_code
def yX1_moveBy : MethodName := ⟨RX1, "moveBy", "(FFF)V"⟩
abbrev cX1_widen : ByteArray := prog_3_method_5_code
def yX1_widen : MethodName := ⟨RX1, "widen", "(FFF)V"⟩
abbrev cX1_widenAxis : ByteArray := prog_3_method_6_code
def yX1_widenAxis : MethodName := ⟨RX1, "widenAxis", "(IF)V"⟩
abbrev cX1_isBox : ByteArray := prog_3_method_7_code
def yX1_isBox : MethodName := ⟨RX1, "isBox", "()Z"⟩
abbrev cX1_isGood : ByteArray := prog_3_method_8_code
def yX1_isGood : MethodName := ⟨RX1, "isGood", "()Z"⟩
abbrev cX1_overlaps : ByteArray := prog_3_method_9_code
def yX1_overlaps : MethodName := ⟨RX1, "overlaps", "(LPairFinder$Box;)Z"⟩
abbrev cX1_liesIn : ByteArray := prog_3_method_10_code
def yX1_liesIn : MethodName := ⟨RX1, "liesIn", "(LPairFinder$Box;)Z"⟩
abbrev cX1_enterOfLine : ByteArray := prog_3_method_11_code
def yX1_enterOfLine : MethodName := ⟨RX1, "enterOfLine", "(LPairFinder$Box;)F"⟩
def RX2 : String := "PairFinder$PairSet"
def TX2 : u_T := fun k => match k with
  | 0 => ("PairFinder$PairSet", "words", "[J", true)
  | _ => ("PairFinder$PairSet", "size", "I", false)
def tyX2 : Nat → FieldType := fun k => match k with
  | 0 => .array .long
  | _ => .int
abbrev wsX20 : List Cond := u_ws RX2 TX2 2
theorem nmX2 : ∀ a, a < 2 → ∀ b, b < 2 → a ≠ b → (TX2 a).2.1 ≠ (TX2 b).2.1 := by decide +kernel
theorem tyX2_ok : ∀ k, k < 2 → parseFieldDescriptor (TX2 k).2.2.1 = some (tyX2 k) := by decide +kernel
abbrev cX2_init : ByteArray := prog_4_method_1_code
def yX2_init : MethodName := ⟨RX2, "<init>", "()V"⟩
abbrev cX2_holds : ByteArray := prog_4_method_2_code
def yX2_holds : MethodName := ⟨RX2, "holds", "(I)Z"⟩
abbrev cX2_put : ByteArray := prog_4_method_3_code
def yX2_put : MethodName := ⟨RX2, "put", "(IZ)V"⟩
abbrev cX2_copyFrom : ByteArray := prog_4_method_4_code
def yX2_copyFrom : MethodName := ⟨RX2, "copyFrom", "(LPairFinder$PairSet;)V"⟩
abbrev cX2_setToDifference : ByteArray := prog_4_method_5_code
def yX2_setToDifference : MethodName := ⟨RX2, "setToDifference", "(LPairFinder$PairSet;LPairFinder$PairSet;)V"⟩
abbrev cX2_codeAt : ByteArray := prog_4_method_6_code
def yX2_codeAt : MethodName := ⟨RX2, "codeAt", "(I)I"⟩
abbrev cX2_bitAt : ByteArray := prog_4_method_7_code
def yX2_bitAt : MethodName := ⟨RX2, "bitAt", "(JI)I"⟩
def RX3 : String := "PairFinder"
def TX3 : u_T := fun k => match k with
  | 0 => ("PairFinder", "pad", "LPairFinder$Box;", true)
  | 1 => ("PairFinder", "bodies", "[LPairFinder$Body;", true)
  | 2 => ("PairFinder", "bodiesThere", "I", false)
  | 3 => ("PairFinder", "pairs", "LPairFinder$PairSet;", false)
  | 4 => ("PairFinder", "nextPairs", "LPairFinder$PairSet;", false)
  | 5 => ("PairFinder", "begun", "LPairFinder$PairSet;", true)
  | 6 => ("PairFinder", "ended", "LPairFinder$PairSet;", true)
  | 7 => ("PairFinder", "updates", "I", false)
  | 8 => ("PairFinder", "foundBodies", "[I", true)
  | 9 => ("PairFinder", "foundFloats", "[F", true)
  | 10 => ("PairFinder", "foundSize", "I", false)
  | _ => ("PairFinder", "workBox", "LPairFinder$Box;", true)
def tyX3 : Nat → FieldType := fun k => match k with
  | 0 => .object "PairFinder$Box"
  | 1 => .array (.object "PairFinder$Body")
  | 2 => .int
  | 3 => .object "PairFinder$PairSet"
  | 4 => .object "PairFinder$PairSet"
  | 5 => .object "PairFinder$PairSet"
  | 6 => .object "PairFinder$PairSet"
  | 7 => .int
  | 8 => .array .int
  | 9 => .array .float
  | 10 => .int
  | _ => .object "PairFinder$Box"
abbrev wsX30 : List Cond := u_ws RX3 TX3 12
theorem nmX3 : ∀ a, a < 12 → ∀ b, b < 12 → a ≠ b → (TX3 a).2.1 ≠ (TX3 b).2.1 := by decide +kernel
theorem tyX3_ok : ∀ k, k < 12 → parseFieldDescriptor (TX3 k).2.2.1 = some (tyX3 k) := by decide +kernel
abbrev cX3_init : ByteArray := prog_1_method_1_code
def yX3_init : MethodName := ⟨RX3, "<init>", "()V"⟩
abbrev cX3_low : ByteArray := prog_1_method_2_code
def yX3_low : MethodName := ⟨RX3, "low", "(FFF)V"⟩
abbrev cX3_high : ByteArray := prog_1_method_3_code
def yX3_high : MethodName := ⟨RX3, "high", "(FFF)V"⟩
abbrev cX3_add : ByteArray := prog_1_method_4_code
def yX3_add : MethodName := ⟨RX3, "add", "(II)I"⟩
abbrev cX3_addRow : ByteArray := prog_1_method_5_code
def yX3_addRow : MethodName := ⟨RX3, "addRow", "(IFFFII)I"⟩
abbrev cX3_move : ByteArray := prog_1_method_6_code
def yX3_move : MethodName := ⟨RX3, "move", "(IFFF)Z"⟩
abbrev cX3_shift : ByteArray := prog_1_method_7_code
def yX3_shift : MethodName := ⟨RX3, "shift", "(IIFFF)I"⟩
abbrev cX3_filter : ByteArray := prog_1_method_8_code
def yX3_filter : MethodName := ⟨RX3, "filter", "(III)V"⟩
abbrev cX3_remove : ByteArray := prog_1_method_9_code
def yX3_remove : MethodName := ⟨RX3, "remove", "(I)I"⟩
abbrev cX3_update : ByteArray := prog_1_method_10_code
def yX3_update : MethodName := ⟨RX3, "update", "()I"⟩
abbrev cX3_pair : ByteArray := prog_1_method_11_code
def yX3_pair : MethodName := ⟨RX3, "pair", "(II)I"⟩
abbrev cX3_paired : ByteArray := prog_1_method_12_code
def yX3_paired : MethodName := ⟨RX3, "paired", "(II)Z"⟩
abbrev cX3_overlapping : ByteArray := prog_1_method_13_code
def yX3_overlapping : MethodName := ⟨RX3, "overlapping", "(I)I"⟩
abbrev cX3_meeting : ByteArray := prog_1_method_14_code
def yX3_meeting : MethodName := ⟨RX3, "meeting", "(I)I"⟩
abbrev cX3_found : ByteArray := prog_1_method_15_code
def yX3_found : MethodName := ⟨RX3, "found", "(I)I"⟩
abbrev cX3_where : ByteArray := prog_1_method_16_code
def yX3_where : MethodName := ⟨RX3, "where", "(I)F"⟩
abbrev cX3_nearest : ByteArray := prog_1_method_17_code
def yX3_nearest : MethodName := ⟨RX3, "nearest", "()I"⟩
abbrev cX3_corner : ByteArray := prog_1_method_18_code
def yX3_corner : MethodName := ⟨RX3, "corner", "(II)F"⟩
abbrev cX3_about : ByteArray := prog_1_method_19_code
def yX3_about : MethodName := ⟨RX3, "about", "(II)I"⟩
abbrev cX3_count : ByteArray := prog_1_method_20_code
def yX3_count : MethodName := ⟨RX3, "count", "(I)I"⟩
abbrev cX3_requireGood : ByteArray := prog_1_method_21_code
def yX3_requireGood : MethodName := ⟨RX3, "requireGood", "(FFF)V"⟩
abbrev cX3_requireMovement : ByteArray := prog_1_method_22_code
def yX3_requireMovement : MethodName := ⟨RX3, "requireMovement", "(FFF)V"⟩
abbrev cX3_requirePadIsBox : ByteArray := prog_1_method_23_code
def yX3_requirePadIsBox : MethodName := ⟨RX3, "requirePadIsBox", "()V"⟩
abbrev cX3_requireRoomFor : ByteArray := prog_1_method_24_code
def yX3_requireRoomFor : MethodName := ⟨RX3, "requireRoomFor", "(I)V"⟩
abbrev cX3_requireThere : ByteArray := prog_1_method_25_code
def yX3_requireThere : MethodName := ⟨RX3, "requireThere", "(I)V"⟩
abbrev cX3_requireFound : ByteArray := prog_1_method_26_code
def yX3_requireFound : MethodName := ⟨RX3, "requireFound", "(I)V"⟩
abbrev cX3_isWithin : ByteArray := prog_1_method_27_code
def yX3_isWithin : MethodName := ⟨RX3, "isWithin", "(FI)Z"⟩
abbrev cX3_isBodyNumber : ByteArray := prog_1_method_28_code
def yX3_isBodyNumber : MethodName := ⟨RX3, "isBodyNumber", "(I)Z"⟩
abbrev cX3_rowStaysGood : ByteArray := prog_1_method_29_code
def yX3_rowStaysGood : MethodName := ⟨RX3, "rowStaysGood", "(IFFF)Z"⟩
abbrev cX3_addBodies : ByteArray := prog_1_method_30_code
def yX3_addBodies : MethodName := ⟨RX3, "addBodies", "(IFFFII)I"⟩
abbrev cX3_shiftBody : ByteArray := prog_1_method_31_code
def yX3_shiftBody : MethodName := ⟨RX3, "shiftBody", "(LPairFinder$Body;FFF)Z"⟩
abbrev cX3_reviewPairsOf : ByteArray := prog_1_method_32_code
def yX3_reviewPairsOf : MethodName := ⟨RX3, "reviewPairsOf", "(I)V"⟩
abbrev cX3_arePair : ByteArray := prog_1_method_33_code
def yX3_arePair : MethodName := ⟨RX3, "arePair", "(II)Z"⟩
abbrev cX3_pairCode : ByteArray := prog_1_method_34_code
def yX3_pairCode : MethodName := ⟨RX3, "pairCode", "(II)I"⟩
abbrev cX3_pairsOf : ByteArray := prog_1_method_35_code
def yX3_pairsOf : MethodName := ⟨RX3, "pairsOf", "(I)I"⟩
abbrev cX3_touchedBodies : ByteArray := prog_1_method_36_code
def yX3_touchedBodies : MethodName := ⟨RX3, "touchedBodies", "()I"⟩
abbrev cX3_appendFound : ByteArray := prog_1_method_37_code
def yX3_appendFound : MethodName := ⟨RX3, "appendFound", "(IF)V"⟩
def RX4 : String := "PairFinderModel"
def TX4 : u_T := fun k => match k with
  | 0 => ("PairFinderModel", "thrown", "I", false)
  | 1 => ("PairFinderModel", "pad", "[F", true)
  | 2 => ("PairFinderModel", "there", "[Z", true)
  | 3 => ("PairFinderModel", "touched", "[Z", true)
  | 4 => ("PairFinderModel", "groups", "[I", true)
  | 5 => ("PairFinderModel", "masks", "[I", true)
  | 6 => ("PairFinderModel", "tight", "[F", true)
  | 7 => ("PairFinderModel", "wide", "[F", true)
  | 8 => ("PairFinderModel", "pairs", "[I", true)
  | 9 => ("PairFinderModel", "next", "[I", true)
  | 10 => ("PairFinderModel", "begun", "[I", true)
  | 11 => ("PairFinderModel", "ended", "[I", true)
  | 12 => ("PairFinderModel", "updates", "I", false)
  | 13 => ("PairFinderModel", "found", "I", false)
  | 14 => ("PairFinderModel", "list", "[I", true)
  | 15 => ("PairFinderModel", "places", "[F", true)
  | _ => ("PairFinderModel", "box", "[F", true)
def tyX4 : Nat → FieldType := fun k => match k with
  | 0 => .int
  | 1 => .array .float
  | 2 => .array .boolean
  | 3 => .array .boolean
  | 4 => .array .int
  | 5 => .array .int
  | 6 => .array .float
  | 7 => .array .float
  | 8 => .array .int
  | 9 => .array .int
  | 10 => .array .int
  | 11 => .array .int
  | 12 => .int
  | 13 => .int
  | 14 => .array .int
  | 15 => .array .float
  | _ => .array .float
abbrev wsX40 : List Cond := u_ws RX4 TX4 17
theorem nmX4 : ∀ a, a < 17 → ∀ b, b < 17 → a ≠ b → (TX4 a).2.1 ≠ (TX4 b).2.1 := by decide +kernel
theorem tyX4_ok : ∀ k, k < 17 → parseFieldDescriptor (TX4 k).2.2.1 = some (tyX4 k) := by decide +kernel
abbrev cX4_init : ByteArray := prog_6_method_1_code
def yX4_init : MethodName := ⟨RX4, "<init>", "()V"⟩
abbrev cX4_thrown : ByteArray := prog_6_method_2_code
def yX4_thrown : MethodName := ⟨RX4, "thrown", "()I"⟩
abbrev cX4_goes : ByteArray := prog_6_method_3_code
def yX4_goes : MethodName := ⟨RX4, "goes", "(ZZ)Z"⟩
abbrev cX4_good : ByteArray := prog_6_method_4_code
def yX4_good : MethodName := ⟨RX4, "good", "(F)Z"⟩
abbrev cX4_slow : ByteArray := prog_6_method_5_code
def yX4_slow : MethodName := ⟨RX4, "slow", "(FFF)Z"⟩
abbrev cX4_padIsBox : ByteArray := prog_6_method_6_code
def yX4_padIsBox : MethodName := ⟨RX4, "padIsBox", "()Z"⟩
abbrev cX4_padCorner : ByteArray := prog_6_method_7_code
def yX4_padCorner : MethodName := ⟨RX4, "padCorner", "(IFFF)V"⟩
abbrev cX4_low : ByteArray := prog_6_method_8_code
def yX4_low : MethodName := ⟨RX4, "low", "(FFF)V"⟩
abbrev cX4_high : ByteArray := prog_6_method_9_code
def yX4_high : MethodName := ⟨RX4, "high", "(FFF)V"⟩
abbrev cX4_known : ByteArray := prog_6_method_10_code
def yX4_known : MethodName := ⟨RX4, "known", "(I)Z"⟩
abbrev cX4_settle : ByteArray := prog_6_method_11_code
def yX4_settle : MethodName := ⟨RX4, "settle", "(IFFF)V"⟩
abbrev cX4_widen : ByteArray := prog_6_method_12_code
def yX4_widen : MethodName := ⟨RX4, "widen", "(IIF)V"⟩
abbrev cX4_least : ByteArray := prog_6_method_13_code
def yX4_least : MethodName := ⟨RX4, "least", "()I"⟩
abbrev cX4_put : ByteArray := prog_6_method_14_code
def yX4_put : MethodName := ⟨RX4, "put", "(II)I"⟩
abbrev cX4_takePad : ByteArray := prog_6_method_15_code
def yX4_takePad : MethodName := ⟨RX4, "takePad", "()V"⟩
abbrev cX4_goesOn : ByteArray := prog_6_method_16_code
def yX4_goesOn : MethodName := ⟨RX4, "goesOn", "(FFF)Z"⟩
abbrev cX4_bodies : ByteArray := prog_6_method_17_code
def yX4_bodies : MethodName := ⟨RX4, "bodies", "()I"⟩
abbrev cX4_add : ByteArray := prog_6_method_18_code
def yX4_add : MethodName := ⟨RX4, "add", "(II)I"⟩
abbrev cX4_addRow : ByteArray := prog_6_method_19_code
def yX4_addRow : MethodName := ⟨RX4, "addRow", "(IFFFII)I"⟩
abbrev cX4_moves : ByteArray := prog_6_method_20_code
def yX4_moves : MethodName := ⟨RX4, "moves", "(IFFF)Z"⟩
abbrev cX4_move : ByteArray := prog_6_method_21_code
def yX4_move : MethodName := ⟨RX4, "move", "(IFFF)Z"⟩
abbrev cX4_shift : ByteArray := prog_6_method_22_code
def yX4_shift : MethodName := ⟨RX4, "shift", "(IIFFF)I"⟩
abbrev cX4_filter : ByteArray := prog_6_method_23_code
def yX4_filter : MethodName := ⟨RX4, "filter", "(III)V"⟩
abbrev cX4_bit : ByteArray := prog_6_method_24_code
def yX4_bit : MethodName := ⟨RX4, "bit", "([III)Z"⟩
abbrev cX4_isPair : ByteArray := prog_6_method_25_code
def yX4_isPair : MethodName := ⟨RX4, "isPair", "(II)Z"⟩
abbrev cX4_pairsOf : ByteArray := prog_6_method_26_code
def yX4_pairsOf : MethodName := ⟨RX4, "pairsOf", "(I)I"⟩
abbrev cX4_remove : ByteArray := prog_6_method_27_code
def yX4_remove : MethodName := ⟨RX4, "remove", "(I)I"⟩
abbrev cX4_overlap : ByteArray := prog_6_method_28_code
def yX4_overlap : MethodName := ⟨RX4, "overlap", "(II)Z"⟩
abbrev cX4_through : ByteArray := prog_6_method_29_code
def yX4_through : MethodName := ⟨RX4, "through", "(II)Z"⟩
abbrev cX4_bits : ByteArray := prog_6_method_30_code
def yX4_bits : MethodName := ⟨RX4, "bits", "([I)I"⟩
abbrev cX4_look : ByteArray := prog_6_method_31_code
def yX4_look : MethodName := ⟨RX4, "look", "()V"⟩
abbrev cX4_update : ByteArray := prog_6_method_32_code
def yX4_update : MethodName := ⟨RX4, "update", "()I"⟩
abbrev cX4_nth : ByteArray := prog_6_method_33_code
def yX4_nth : MethodName := ⟨RX4, "nth", "([II)I"⟩
abbrev cX4_pair : ByteArray := prog_6_method_34_code
def yX4_pair : MethodName := ⟨RX4, "pair", "(II)I"⟩
abbrev cX4_paired : ByteArray := prog_6_method_35_code
def yX4_paired : MethodName := ⟨RX4, "paired", "(II)Z"⟩
abbrev cX4_overlapping : ByteArray := prog_6_method_36_code
def yX4_overlapping : MethodName := ⟨RX4, "overlapping", "(I)I"⟩
abbrev cX4_enters : ByteArray := prog_6_method_37_code
def yX4_enters : MethodName := ⟨RX4, "enters", "(I)F"⟩
abbrev cX4_meeting : ByteArray := prog_6_method_38_code
def yX4_meeting : MethodName := ⟨RX4, "meeting", "(I)I"⟩
abbrev cX4_found : ByteArray := prog_6_method_39_code
def yX4_found : MethodName := ⟨RX4, "found", "(I)I"⟩
abbrev cX4_where : ByteArray := prog_6_method_40_code
def yX4_where : MethodName := ⟨RX4, "where", "(I)F"⟩
abbrev cX4_nearest : ByteArray := prog_6_method_41_code
def yX4_nearest : MethodName := ⟨RX4, "nearest", "()I"⟩
abbrev cX4_corner : ByteArray := prog_6_method_42_code
def yX4_corner : MethodName := ⟨RX4, "corner", "(II)F"⟩
abbrev cX4_about : ByteArray := prog_6_method_43_code
def yX4_about : MethodName := ⟨RX4, "about", "(II)I"⟩
abbrev cX4_count : ByteArray := prog_6_method_44_code
def yX4_count : MethodName := ⟨RX4, "count", "(I)I"⟩
def RJ13 : String := "java/lang/Long"
def TJ13 : u_T := fun k => match k with
  | _ => ("", "", "", false)
def tyJ13 : Nat → FieldType := fun k => match k with
  | _ => .int
abbrev wsJ130 : List Cond := u_ws RJ13 TJ13 0
theorem nmJ13 : ∀ a, a < 0 → ∀ b, b < 0 → a ≠ b → (TJ13 a).2.1 ≠ (TJ13 b).2.1 := by decide +kernel
theorem tyJ13_ok : ∀ k, k < 0 → parseFieldDescriptor (TJ13 k).2.2.1 = some (tyJ13 k) := by decide +kernel
abbrev cJ13_bitCount_95d88 : ByteArray := prog_11_method_50_code
def yJ13_bitCount_95d88 : MethodName := ⟨RJ13, "bitCount", "(J)I"⟩
def RJ0 : String := "java/lang/String"
def TJ0 : u_T := fun k => match k with
  | _ => ("", "", "", false)
def tyJ0 : Nat → FieldType := fun k => match k with
  | _ => .int
abbrev wsJ00 : List Cond := u_ws RJ0 TJ0 0
theorem nmJ0 : ∀ a, a < 0 → ∀ b, b < 0 → a ≠ b → (TJ0 a).2.1 ≠ (TJ0 b).2.1 := by decide +kernel
theorem tyJ0_ok : ∀ k, k < 0 → parseFieldDescriptor (TJ0 k).2.2.1 = some (tyJ0 k) := by decide +kernel
def RJ10 : String := "java/lang/System"
def TJ10 : u_T := fun k => match k with
  | _ => ("", "", "", false)
def tyJ10 : Nat → FieldType := fun k => match k with
  | _ => .int
abbrev wsJ100 : List Cond := u_ws RJ10 TJ10 0
theorem nmJ10 : ∀ a, a < 0 → ∀ b, b < 0 → a ≠ b → (TJ10 a).2.1 ≠ (TJ10 b).2.1 := by decide +kernel
theorem tyJ10_ok : ∀ k, k < 0 → parseFieldDescriptor (TJ10 k).2.2.1 = some (tyJ10 k) := by decide +kernel
def RL : String := "PairFinderLaw"
abbrev cL_low : ByteArray := method_3_code
def yL_low : MethodName := ⟨RL, "low", "(LPairFinder;FFF)I"⟩
abbrev cL_high : ByteArray := method_4_code
def yL_high : MethodName := ⟨RL, "high", "(LPairFinder;FFF)I"⟩
abbrev cL_add : ByteArray := method_5_code
def yL_add : MethodName := ⟨RL, "add", "(LPairFinder;II[J)I"⟩
abbrev cL_addRow : ByteArray := method_6_code
def yL_addRow : MethodName := ⟨RL, "addRow", "(LPairFinder;IFFFII[J)I"⟩
abbrev cL_move : ByteArray := method_7_code
def yL_move : MethodName := ⟨RL, "move", "(LPairFinder;IFFF[J)I"⟩
abbrev cL_shift : ByteArray := method_8_code
def yL_shift : MethodName := ⟨RL, "shift", "(LPairFinder;IIFFF[J)I"⟩
abbrev cL_filter : ByteArray := method_9_code
def yL_filter : MethodName := ⟨RL, "filter", "(LPairFinder;III)I"⟩
abbrev cL_remove : ByteArray := method_10_code
def yL_remove : MethodName := ⟨RL, "remove", "(LPairFinder;I[J)I"⟩
abbrev cL_update : ByteArray := method_11_code
def yL_update : MethodName := ⟨RL, "update", "(LPairFinder;[J)I"⟩
abbrev cL_pair : ByteArray := method_12_code
def yL_pair : MethodName := ⟨RL, "pair", "(LPairFinder;II[J)I"⟩
abbrev cL_paired : ByteArray := method_13_code
def yL_paired : MethodName := ⟨RL, "paired", "(LPairFinder;II[J)I"⟩
abbrev cL_overlapping : ByteArray := method_14_code
def yL_overlapping : MethodName := ⟨RL, "overlapping", "(LPairFinder;I[J)I"⟩
abbrev cL_found : ByteArray := method_15_code
def yL_found : MethodName := ⟨RL, "found", "(LPairFinder;I[J)I"⟩
abbrev cL_where : ByteArray := method_16_code
def yL_where : MethodName := ⟨RL, "where", "(LPairFinder;I[D)I"⟩
abbrev cL_corner : ByteArray := method_17_code
def yL_corner : MethodName := ⟨RL, "corner", "(LPairFinder;II[D)I"⟩
abbrev cL_about : ByteArray := method_18_code
def yL_about : MethodName := ⟨RL, "about", "(LPairFinder;II[J)I"⟩
abbrev cL_count : ByteArray := method_19_code
def yL_count : MethodName := ⟨RL, "count", "(LPairFinder;I[J)I"⟩
abbrev cL_law : ByteArray := code
def yL_law : MethodName := ⟨RL, "law", "([I)Z"⟩
def wsX1_init : List Cond := .code yX1_init cX1_init 1 none :: ([.methodLink RX1 3 objectInit, .instanceMethod objectInit, .code objectInit ⟨#[0xb1]⟩ 1 none, .arrayClass .float, .fieldLink RX1 11 "PairFinder$Box" "numbers" "[F"] ++ wsX10)
def wsX0_init : List Cond := .code yX0_init cX0_init 1 none :: ([.methodLink RX0 1 objectInit, .instanceMethod objectInit, .code objectInit ⟨#[0xb1]⟩ 1 none, .classLink RX0 7 RX1, .instantiable RX1 1, .initialized RX1, .fieldLink RX0 10 "PairFinder$Body" "tight" "LPairFinder$Box;", .fieldLink RX0 16 "PairFinder$Body" "wide" "LPairFinder$Box;", .instanceMethod yX1_init, .code yX1_init cX1_init 1 none, .methodLink RX1 3 objectInit, .arrayClass .float, .fieldLink RX1 11 "PairFinder$Box" "numbers" "[F"] ++ wsX10 ++ wsX00)
def wsX1_copyFrom : List Cond := .code yX1_copyFrom cX1_copyFrom 2 none :: ([.fieldLink RX1 11 "PairFinder$Box" "numbers" "[F", .methodLink RX1 15 arraycopyName, .native arraycopyName, .static arraycopyName, .initialized "java/lang/System"] ++ wsX10)
def wsX1_widenAxis : List Cond := .code yX1_widenAxis cX1_widenAxis 5 none :: ([.fieldLink RX1 11 "PairFinder$Box" "numbers" "[F", .constantFloat RX1 25 (1048576000)] ++ wsX10)
def wsX1_widen : List Cond := .code yX1_widen cX1_widen 4 none :: ([.methodLink RX1 21 yX1_widenAxis, .instanceMethod yX1_widenAxis, .selects RX1 yX1_widenAxis yX1_widenAxis, .initialized RX1, .code yX1_widenAxis cX1_widenAxis 5 none, .fieldLink RX1 11 "PairFinder$Box" "numbers" "[F", .constantFloat RX1 25 (1048576000)] ++ wsX10)
def wsX0_setFilter : List Cond := .code yX0_setFilter cX0_setFilter 3 none :: ([.fieldLink RX0 38 "PairFinder$Body" "group" "I", .fieldLink RX0 42 "PairFinder$Body" "mask" "I", .fieldLink RX0 35 "PairFinder$Body" "touched" "Z"] ++ wsX00)
def wsX0_appear_r1 : List Cond := [Cond.fieldLink RX0 19 "PairFinder$Body" "there" "Z", Cond.fieldLink RX0 10 "PairFinder$Body" "tight" "LPairFinder$Box;", Cond.fieldLink RX0 16 "PairFinder$Body" "wide" "LPairFinder$Box;", Cond.methodLink RX0 23 yX1_copyFrom, Cond.instanceMethod yX1_copyFrom, Cond.selects RX1 yX1_copyFrom yX1_copyFrom, Cond.initialized RX1, Cond.code yX1_copyFrom cX1_copyFrom 2 none, Cond.fieldLink RX1 11 "PairFinder$Box" "numbers" "[F", Cond.methodLink RX1 15 arraycopyName, Cond.native arraycopyName, Cond.static arraycopyName, Cond.initialized "java/lang/System", Cond.methodLink RX0 27 yX1_widen, Cond.instanceMethod yX1_widen, Cond.selects RX1 yX1_widen yX1_widen, Cond.code yX1_widen cX1_widen 4 none, Cond.methodLink RX1 21 yX1_widenAxis, Cond.instanceMethod yX1_widenAxis, Cond.selects RX1 yX1_widenAxis yX1_widenAxis, Cond.code yX1_widenAxis cX1_widenAxis 5 none, Cond.constantFloat RX1 25 (1048576000), Cond.methodLink RX0 31 yX0_setFilter, Cond.instanceMethod yX0_setFilter]
def wsX0_appear_r2 : List Cond := [Cond.selects RX0 yX0_setFilter yX0_setFilter, Cond.initialized RX0, Cond.code yX0_setFilter cX0_setFilter 3 none, Cond.fieldLink RX0 38 "PairFinder$Body" "group" "I", Cond.fieldLink RX0 42 "PairFinder$Body" "mask" "I", Cond.fieldLink RX0 35 "PairFinder$Body" "touched" "Z"]
def wsX0_appear : List Cond := .code yX0_appear cX0_appear 4 none :: ((wsX0_appear_r1 ++ wsX0_appear_r2) ++ wsX00 ++ wsX10)
def wsX0_leave : List Cond := .code yX0_leave cX0_leave 1 none :: ([.fieldLink RX0 19 "PairFinder$Body" "there" "Z", .fieldLink RX0 35 "PairFinder$Body" "touched" "Z"] ++ wsX00)
def wsX1_liesIn : List Cond := .code yX1_liesIn cX1_liesIn 3 (some .boolean) :: ([.fieldLink RX1 11 "PairFinder$Box" "numbers" "[F"] ++ wsX10)
def wsX0_moveTo_r1 : List Cond := [Cond.fieldLink RX0 10 "PairFinder$Body" "tight" "LPairFinder$Box;", Cond.fieldLink RX0 16 "PairFinder$Body" "wide" "LPairFinder$Box;", Cond.fieldLink RX0 35 "PairFinder$Body" "touched" "Z", Cond.methodLink RX0 23 yX1_copyFrom, Cond.instanceMethod yX1_copyFrom, Cond.selects RX1 yX1_copyFrom yX1_copyFrom, Cond.initialized RX1, Cond.code yX1_copyFrom cX1_copyFrom 2 none, Cond.fieldLink RX1 11 "PairFinder$Box" "numbers" "[F", Cond.methodLink RX1 15 arraycopyName, Cond.native arraycopyName, Cond.static arraycopyName, Cond.initialized "java/lang/System", Cond.methodLink RX0 45 yX1_liesIn, Cond.instanceMethod yX1_liesIn, Cond.selects RX1 yX1_liesIn yX1_liesIn, Cond.code yX1_liesIn cX1_liesIn 3 (some .boolean), Cond.methodLink RX0 27 yX1_widen, Cond.instanceMethod yX1_widen, Cond.selects RX1 yX1_widen yX1_widen, Cond.code yX1_widen cX1_widen 4 none, Cond.methodLink RX1 21 yX1_widenAxis, Cond.instanceMethod yX1_widenAxis, Cond.selects RX1 yX1_widenAxis yX1_widenAxis]
def wsX0_moveTo_r2 : List Cond := [Cond.code yX1_widenAxis cX1_widenAxis 5 none, Cond.constantFloat RX1 25 (1048576000)]
def wsX0_moveTo : List Cond := .code yX0_moveTo cX0_moveTo 5 (some .boolean) :: ((wsX0_moveTo_r1 ++ wsX0_moveTo_r2) ++ wsX00 ++ wsX10)
def wsX1_overlaps : List Cond := .code yX1_overlaps cX1_overlaps 3 (some .boolean) :: ([.fieldLink RX1 11 "PairFinder$Box" "numbers" "[F"] ++ wsX10)
def wsX0_pairsWith : List Cond := .code yX0_pairsWith cX0_pairsWith 2 (some .boolean) :: ([.fieldLink RX0 19 "PairFinder$Body" "there" "Z", .fieldLink RX0 38 "PairFinder$Body" "group" "I", .fieldLink RX0 42 "PairFinder$Body" "mask" "I", .fieldLink RX0 16 "PairFinder$Body" "wide" "LPairFinder$Box;", .methodLink RX0 49 yX1_overlaps, .instanceMethod yX1_overlaps, .selects RX1 yX1_overlaps yX1_overlaps, .initialized RX1, .code yX1_overlaps cX1_overlaps 3 (some .boolean), .fieldLink RX1 11 "PairFinder$Box" "numbers" "[F"] ++ wsX00 ++ wsX10)
def wsX1_setCorner : List Cond := .code yX1_setCorner cX1_setCorner 6 none :: ([.fieldLink RX1 11 "PairFinder$Box" "numbers" "[F"] ++ wsX10)
def wsX1_moveBy : List Cond := .code yX1_moveBy cX1_moveBy 5 none :: ([.fieldLink RX1 11 "PairFinder$Box" "numbers" "[F"] ++ wsX10)
def wsX1_isBox : List Cond := .code yX1_isBox cX1_isBox 2 (some .boolean) :: ([.fieldLink RX1 11 "PairFinder$Box" "numbers" "[F"] ++ wsX10)
def wsX3_isWithin : List Cond := .code yX3_isWithin cX3_isWithin 2 (some .boolean) :: ([])
def wsX1_isGood : List Cond := .code yX1_isGood cX1_isGood 2 (some .boolean) :: ([.fieldLink RX1 11 "PairFinder$Box" "numbers" "[F", .static yX3_isWithin, .initialized RX3, .code yX3_isWithin cX3_isWithin 2 (some .boolean)] ++ wsX10)
def wsX1_enterOfLine : List Cond := .code yX1_enterOfLine cX1_enterOfLine 11 (some .float) :: ([.fieldLink RX1 11 "PairFinder$Box" "numbers" "[F", .constantFloat RX1 30 (3212836864)] ++ wsX10)
def wsX2_init : List Cond := .code yX2_init cX2_init 1 none :: ([.methodLink RX2 5 objectInit, .instanceMethod objectInit, .code objectInit ⟨#[0xb1]⟩ 1 none, .arrayClass .long, .fieldLink RX2 11 "PairFinder$PairSet" "words" "[J"] ++ wsX20)
def wsX2_holds : List Cond := .code yX2_holds cX2_holds 2 (some .boolean) :: ([.fieldLink RX2 11 "PairFinder$PairSet" "words" "[J"] ++ wsX20)
def wsX2_put : List Cond := .code yX2_put cX2_put 3 none :: ([.fieldLink RX2 11 "PairFinder$PairSet" "words" "[J", .fieldLink RX2 19 "PairFinder$PairSet" "size" "I", .methodLink RX2 15 yX2_holds, .instanceMethod yX2_holds, .selects RX2 yX2_holds yX2_holds, .initialized RX2, .code yX2_holds cX2_holds 2 (some .boolean)] ++ wsX20)
def wsX2_copyFrom : List Cond := .code yX2_copyFrom cX2_copyFrom 2 none :: ([.fieldLink RX2 11 "PairFinder$PairSet" "words" "[J", .methodLink RX2 23 arraycopyName, .native arraycopyName, .static arraycopyName, .initialized "java/lang/System", .fieldLink RX2 19 "PairFinder$PairSet" "size" "I"] ++ wsX20)
def wsJ13_bitCount_95d88 : List Cond := .code yJ13_bitCount_95d88 cJ13_bitCount_95d88 2 (some .int) :: ([.constantLong RJ13 314 (6148914691236517205), .constantLong RJ13 316 (3689348814741910323), .constantLong RJ13 318 (1085102592571150095)])
def wsX2_setToDifference : List Cond := .code yX2_setToDifference cX2_setToDifference 4 none :: ([.fieldLink RX2 19 "PairFinder$PairSet" "size" "I", .fieldLink RX2 11 "PairFinder$PairSet" "words" "[J", .constantLong RX2 29 (-1), .methodLink RX2 31 yJ13_bitCount_95d88, .static yJ13_bitCount_95d88, .initialized RJ13, .code yJ13_bitCount_95d88 cJ13_bitCount_95d88 2 (some .int), .constantLong RJ13 314 (6148914691236517205), .constantLong RJ13 316 (3689348814741910323), .constantLong RJ13 318 (1085102592571150095)] ++ wsX20)
def wsX2_bitAt : List Cond := .code yX2_bitAt cX2_bitAt 5 (some .int) :: ([])
def wsX2_codeAt : List Cond := .code yX2_codeAt cX2_codeAt 5 (some .int) :: ([.fieldLink RX2 11 "PairFinder$PairSet" "words" "[J", .methodLink RX2 31 yJ13_bitCount_95d88, .static yJ13_bitCount_95d88, .initialized RJ13, .code yJ13_bitCount_95d88 cJ13_bitCount_95d88 2 (some .int), .constantLong RJ13 314 (6148914691236517205), .constantLong RJ13 316 (3689348814741910323), .constantLong RJ13 318 (1085102592571150095), .methodLink RX2 37 yX2_bitAt, .static yX2_bitAt, .initialized RX2, .code yX2_bitAt cX2_bitAt 5 (some .int)] ++ wsX20)
def wsX3_init_r1 : List Cond := [Cond.methodLink RX3 1 objectInit, Cond.instanceMethod objectInit, Cond.code objectInit ⟨#[0xb1]⟩ 1 none, Cond.classLink RX3 7 RX1, Cond.instantiable RX1 1, Cond.initialized RX1, Cond.fieldLink RX3 10 "PairFinder" "pad" "LPairFinder$Box;", Cond.classLink RX3 16 RX0, Cond.fieldLink RX3 18 "PairFinder" "bodies" "[LPairFinder$Body;", Cond.instantiable RX0 6, Cond.initialized RX0, Cond.classLink RX3 23 RX2, Cond.instantiable RX2 2, Cond.initialized RX2, Cond.fieldLink RX3 26 "PairFinder" "pairs" "LPairFinder$PairSet;", Cond.fieldLink RX3 30 "PairFinder" "nextPairs" "LPairFinder$PairSet;", Cond.fieldLink RX3 33 "PairFinder" "begun" "LPairFinder$PairSet;", Cond.fieldLink RX3 36 "PairFinder" "ended" "LPairFinder$PairSet;", Cond.arrayClass .int, Cond.fieldLink RX3 39 "PairFinder" "foundBodies" "[I", Cond.arrayClass .float, Cond.fieldLink RX3 43 "PairFinder" "foundFloats" "[F", Cond.fieldLink RX3 47 "PairFinder" "workBox" "LPairFinder$Box;", Cond.instanceMethod yX1_init]
def wsX3_init_r2 : List Cond := [Cond.code yX1_init cX1_init 1 none, Cond.methodLink RX1 3 objectInit, Cond.fieldLink RX1 11 "PairFinder$Box" "numbers" "[F", Cond.instanceMethod yX0_init, Cond.code yX0_init cX0_init 1 none, Cond.methodLink RX0 1 objectInit, Cond.classLink RX0 7 RX1, Cond.fieldLink RX0 10 "PairFinder$Body" "tight" "LPairFinder$Box;", Cond.fieldLink RX0 16 "PairFinder$Body" "wide" "LPairFinder$Box;", Cond.instanceMethod yX2_init, Cond.code yX2_init cX2_init 1 none, Cond.methodLink RX2 5 objectInit, Cond.arrayClass .long, Cond.fieldLink RX2 11 "PairFinder$PairSet" "words" "[J"]
def wsX3_init : List Cond := .code yX3_init cX3_init 2 none :: ((wsX3_init_r1 ++ wsX3_init_r2) ++ wsX10 ++ wsX30 ++ wsX00 ++ wsX20)
def wsX3_requireGood : List Cond := .code yX3_requireGood cX3_requireGood 3 none :: ([.classLink RX3 69 "java/lang/IllegalArgumentException", .initialized "java/lang/IllegalArgumentException", .methodLink RX3 212 yX3_isWithin, .static yX3_isWithin, .initialized RX3, .code yX3_isWithin cX3_isWithin 2 (some .boolean)] ++ (vx_atS RX3 73 "java/lang/IllegalArgumentException" ["java/lang/RuntimeException", "java/lang/Exception"]).filter goodWord)
def wsX3_low : List Cond := .code yX3_low cX3_low 4 none :: ([.fieldLink RX3 10 "PairFinder" "pad" "LPairFinder$Box;", .methodLink RX3 50 yX3_requireGood, .static yX3_requireGood, .initialized RX3, .code yX3_requireGood cX3_requireGood 3 none, .classLink RX3 69 "java/lang/IllegalArgumentException", .initialized "java/lang/IllegalArgumentException", .methodLink RX3 212 yX3_isWithin, .static yX3_isWithin, .code yX3_isWithin cX3_isWithin 2 (some .boolean), .methodLink RX3 54 yX1_setCorner, .instanceMethod yX1_setCorner, .selects RX1 yX1_setCorner yX1_setCorner, .initialized RX1, .code yX1_setCorner cX1_setCorner 6 none, .fieldLink RX1 11 "PairFinder$Box" "numbers" "[F"] ++ wsX30 ++ wsX10 ++ (vx_atS RX3 73 "java/lang/IllegalArgumentException" ["java/lang/RuntimeException", "java/lang/Exception"]).filter goodWord)
def wsX3_high : List Cond := .code yX3_high cX3_high 4 none :: ([.fieldLink RX3 10 "PairFinder" "pad" "LPairFinder$Box;", .methodLink RX3 50 yX3_requireGood, .static yX3_requireGood, .initialized RX3, .code yX3_requireGood cX3_requireGood 3 none, .classLink RX3 69 "java/lang/IllegalArgumentException", .initialized "java/lang/IllegalArgumentException", .methodLink RX3 212 yX3_isWithin, .static yX3_isWithin, .code yX3_isWithin cX3_isWithin 2 (some .boolean), .methodLink RX3 54 yX1_setCorner, .instanceMethod yX1_setCorner, .selects RX1 yX1_setCorner yX1_setCorner, .initialized RX1, .code yX1_setCorner cX1_setCorner 6 none, .fieldLink RX1 11 "PairFinder$Box" "numbers" "[F"] ++ wsX30 ++ wsX10 ++ (vx_atS RX3 73 "java/lang/IllegalArgumentException" ["java/lang/RuntimeException", "java/lang/Exception"]).filter goodWord)
def wsX3_requirePadIsBox : List Cond := .code yX3_requirePadIsBox cX3_requirePadIsBox 1 none :: ([.classLink RX3 69 "java/lang/IllegalArgumentException", .initialized "java/lang/IllegalArgumentException", .fieldLink RX3 10 "PairFinder" "pad" "LPairFinder$Box;", .methodLink RX3 220 yX1_isBox, .instanceMethod yX1_isBox, .selects RX1 yX1_isBox yX1_isBox, .initialized RX1, .code yX1_isBox cX1_isBox 2 (some .boolean), .fieldLink RX1 11 "PairFinder$Box" "numbers" "[F"] ++ wsX30 ++ wsX10 ++ (vx_atS RX3 73 "java/lang/IllegalArgumentException" ["java/lang/RuntimeException", "java/lang/Exception"]).filter goodWord)
def wsX3_requireRoomFor : List Cond := .code yX3_requireRoomFor cX3_requireRoomFor 2 none :: ([.classLink RX3 145 "java/lang/IllegalStateException", .initialized "java/lang/IllegalStateException", .fieldLink RX3 128 "PairFinder" "bodiesThere" "I"] ++ wsX30 ++ (vx_atS RX3 149 "java/lang/IllegalStateException" ["java/lang/RuntimeException", "java/lang/Exception"]).filter goodWord)
def wsX3_addBodies_r1 : List Cond := [Cond.fieldLink RX3 47 "PairFinder" "workBox" "LPairFinder$Box;", Cond.fieldLink RX3 10 "PairFinder" "pad" "LPairFinder$Box;", Cond.fieldLink RX3 18 "PairFinder" "bodies" "[LPairFinder$Body;", Cond.fieldLink RX3 101 "PairFinder$Body" "there" "Z", Cond.fieldLink RX3 128 "PairFinder" "bodiesThere" "I", Cond.methodLink RX3 232 yX1_copyFrom, Cond.instanceMethod yX1_copyFrom, Cond.selects RX1 yX1_copyFrom yX1_copyFrom, Cond.initialized RX1, Cond.code yX1_copyFrom cX1_copyFrom 2 none, Cond.fieldLink RX1 11 "PairFinder$Box" "numbers" "[F", Cond.methodLink RX1 15 arraycopyName, Cond.native arraycopyName, Cond.static arraycopyName, Cond.initialized "java/lang/System", Cond.methodLink RX3 235 yX1_moveBy, Cond.instanceMethod yX1_moveBy, Cond.selects RX1 yX1_moveBy yX1_moveBy, Cond.code yX1_moveBy cX1_moveBy 5 none, Cond.methodLink RX3 241 yX0_appear, Cond.instanceMethod yX0_appear, Cond.selects RX0 yX0_appear yX0_appear, Cond.initialized RX0, Cond.code yX0_appear cX0_appear 4 none]
def wsX3_addBodies_r2 : List Cond := [Cond.fieldLink RX0 19 "PairFinder$Body" "there" "Z", Cond.fieldLink RX0 10 "PairFinder$Body" "tight" "LPairFinder$Box;", Cond.fieldLink RX0 16 "PairFinder$Body" "wide" "LPairFinder$Box;", Cond.methodLink RX0 23 yX1_copyFrom, Cond.methodLink RX0 27 yX1_widen, Cond.instanceMethod yX1_widen, Cond.selects RX1 yX1_widen yX1_widen, Cond.code yX1_widen cX1_widen 4 none, Cond.methodLink RX1 21 yX1_widenAxis, Cond.instanceMethod yX1_widenAxis, Cond.selects RX1 yX1_widenAxis yX1_widenAxis, Cond.code yX1_widenAxis cX1_widenAxis 5 none, Cond.constantFloat RX1 25 (1048576000), Cond.methodLink RX0 31 yX0_setFilter, Cond.instanceMethod yX0_setFilter, Cond.selects RX0 yX0_setFilter yX0_setFilter, Cond.code yX0_setFilter cX0_setFilter 3 none, Cond.fieldLink RX0 38 "PairFinder$Body" "group" "I", Cond.fieldLink RX0 42 "PairFinder$Body" "mask" "I", Cond.fieldLink RX0 35 "PairFinder$Body" "touched" "Z"]
def wsX3_addBodies : List Cond := .code yX3_addBodies cX3_addBodies 10 (some .int) :: ((wsX3_addBodies_r1 ++ wsX3_addBodies_r2) ++ wsX30 ++ wsX00 ++ wsX10)
def wsX3_add_r1 : List Cond := [Cond.methodLink RX3 58 yX3_requirePadIsBox, Cond.instanceMethod yX3_requirePadIsBox, Cond.selects RX3 yX3_requirePadIsBox yX3_requirePadIsBox, Cond.initialized RX3, Cond.code yX3_requirePadIsBox cX3_requirePadIsBox 1 none, Cond.classLink RX3 69 "java/lang/IllegalArgumentException", Cond.initialized "java/lang/IllegalArgumentException", Cond.fieldLink RX3 10 "PairFinder" "pad" "LPairFinder$Box;", Cond.methodLink RX3 220 yX1_isBox, Cond.instanceMethod yX1_isBox, Cond.selects RX1 yX1_isBox yX1_isBox, Cond.initialized RX1, Cond.code yX1_isBox cX1_isBox 2 (some .boolean), Cond.fieldLink RX1 11 "PairFinder$Box" "numbers" "[F", Cond.methodLink RX3 61 yX3_requireRoomFor, Cond.instanceMethod yX3_requireRoomFor, Cond.selects RX3 yX3_requireRoomFor yX3_requireRoomFor, Cond.code yX3_requireRoomFor cX3_requireRoomFor 2 none, Cond.classLink RX3 145 "java/lang/IllegalStateException", Cond.initialized "java/lang/IllegalStateException", Cond.fieldLink RX3 128 "PairFinder" "bodiesThere" "I", Cond.methodLink RX3 65 yX3_addBodies, Cond.instanceMethod yX3_addBodies, Cond.selects RX3 yX3_addBodies yX3_addBodies]
def wsX3_add_r2 : List Cond := [Cond.code yX3_addBodies cX3_addBodies 10 (some .int), Cond.fieldLink RX3 47 "PairFinder" "workBox" "LPairFinder$Box;", Cond.fieldLink RX3 18 "PairFinder" "bodies" "[LPairFinder$Body;", Cond.fieldLink RX3 101 "PairFinder$Body" "there" "Z", Cond.methodLink RX3 232 yX1_copyFrom, Cond.instanceMethod yX1_copyFrom, Cond.selects RX1 yX1_copyFrom yX1_copyFrom, Cond.code yX1_copyFrom cX1_copyFrom 2 none, Cond.methodLink RX1 15 arraycopyName, Cond.native arraycopyName, Cond.static arraycopyName, Cond.initialized "java/lang/System", Cond.methodLink RX3 235 yX1_moveBy, Cond.instanceMethod yX1_moveBy, Cond.selects RX1 yX1_moveBy yX1_moveBy, Cond.code yX1_moveBy cX1_moveBy 5 none, Cond.methodLink RX3 241 yX0_appear, Cond.instanceMethod yX0_appear, Cond.selects RX0 yX0_appear yX0_appear, Cond.initialized RX0, Cond.code yX0_appear cX0_appear 4 none, Cond.fieldLink RX0 19 "PairFinder$Body" "there" "Z", Cond.fieldLink RX0 10 "PairFinder$Body" "tight" "LPairFinder$Box;", Cond.fieldLink RX0 16 "PairFinder$Body" "wide" "LPairFinder$Box;"]
def wsX3_add_r3 : List Cond := [Cond.methodLink RX0 23 yX1_copyFrom, Cond.methodLink RX0 27 yX1_widen, Cond.instanceMethod yX1_widen, Cond.selects RX1 yX1_widen yX1_widen, Cond.code yX1_widen cX1_widen 4 none, Cond.methodLink RX1 21 yX1_widenAxis, Cond.instanceMethod yX1_widenAxis, Cond.selects RX1 yX1_widenAxis yX1_widenAxis, Cond.code yX1_widenAxis cX1_widenAxis 5 none, Cond.constantFloat RX1 25 (1048576000), Cond.methodLink RX0 31 yX0_setFilter, Cond.instanceMethod yX0_setFilter, Cond.selects RX0 yX0_setFilter yX0_setFilter, Cond.code yX0_setFilter cX0_setFilter 3 none, Cond.fieldLink RX0 38 "PairFinder$Body" "group" "I", Cond.fieldLink RX0 42 "PairFinder$Body" "mask" "I", Cond.fieldLink RX0 35 "PairFinder$Body" "touched" "Z"]
def wsX3_add : List Cond := .code yX3_add cX3_add 3 (some .int) :: ((wsX3_add_r1 ++ (wsX3_add_r2 ++ wsX3_add_r3)) ++ wsX30 ++ wsX10 ++ wsX00 ++ (vx_atS RX3 73 "java/lang/IllegalArgumentException" ["java/lang/RuntimeException", "java/lang/Exception"]).filter goodWord ++ (vx_atS RX3 149 "java/lang/IllegalStateException" ["java/lang/RuntimeException", "java/lang/Exception"]).filter goodWord)
def wsX3_requireMovement : List Cond := .code yX3_requireMovement cX3_requireMovement 3 none :: ([.classLink RX3 69 "java/lang/IllegalArgumentException", .initialized "java/lang/IllegalArgumentException", .methodLink RX3 212 yX3_isWithin, .static yX3_isWithin, .initialized RX3, .code yX3_isWithin cX3_isWithin 2 (some .boolean)] ++ (vx_atS RX3 73 "java/lang/IllegalArgumentException" ["java/lang/RuntimeException", "java/lang/Exception"]).filter goodWord)
def wsX3_rowStaysGood : List Cond := .code yX3_rowStaysGood cX3_rowStaysGood 6 (some .boolean) :: ([.fieldLink RX3 47 "PairFinder" "workBox" "LPairFinder$Box;", .fieldLink RX3 10 "PairFinder" "pad" "LPairFinder$Box;", .methodLink RX3 232 yX1_copyFrom, .instanceMethod yX1_copyFrom, .selects RX1 yX1_copyFrom yX1_copyFrom, .initialized RX1, .code yX1_copyFrom cX1_copyFrom 2 none, .fieldLink RX1 11 "PairFinder$Box" "numbers" "[F", .methodLink RX1 15 arraycopyName, .native arraycopyName, .static arraycopyName, .initialized "java/lang/System", .methodLink RX3 235 yX1_moveBy, .instanceMethod yX1_moveBy, .selects RX1 yX1_moveBy yX1_moveBy, .code yX1_moveBy cX1_moveBy 5 none, .methodLink RX3 238 yX1_isGood, .instanceMethod yX1_isGood, .selects RX1 yX1_isGood yX1_isGood, .code yX1_isGood cX1_isGood 2 (some .boolean), .static yX3_isWithin, .initialized RX3, .code yX3_isWithin cX3_isWithin 2 (some .boolean)] ++ wsX30 ++ wsX10)
def wsX3_addRow_r1 : List Cond := [Cond.classLink RX3 69 "java/lang/IllegalArgumentException", Cond.initialized "java/lang/IllegalArgumentException", Cond.methodLink RX3 58 yX3_requirePadIsBox, Cond.instanceMethod yX3_requirePadIsBox, Cond.selects RX3 yX3_requirePadIsBox yX3_requirePadIsBox, Cond.initialized RX3, Cond.code yX3_requirePadIsBox cX3_requirePadIsBox 1 none, Cond.fieldLink RX3 10 "PairFinder" "pad" "LPairFinder$Box;", Cond.methodLink RX3 220 yX1_isBox, Cond.instanceMethod yX1_isBox, Cond.selects RX1 yX1_isBox yX1_isBox, Cond.initialized RX1, Cond.code yX1_isBox cX1_isBox 2 (some .boolean), Cond.fieldLink RX1 11 "PairFinder$Box" "numbers" "[F", Cond.methodLink RX3 76 yX3_requireMovement, Cond.static yX3_requireMovement, Cond.code yX3_requireMovement cX3_requireMovement 3 none, Cond.methodLink RX3 212 yX3_isWithin, Cond.static yX3_isWithin, Cond.code yX3_isWithin cX3_isWithin 2 (some .boolean), Cond.methodLink RX3 79 yX3_rowStaysGood, Cond.instanceMethod yX3_rowStaysGood, Cond.selects RX3 yX3_rowStaysGood yX3_rowStaysGood, Cond.code yX3_rowStaysGood cX3_rowStaysGood 6 (some .boolean)]
def wsX3_addRow_r2 : List Cond := [Cond.fieldLink RX3 47 "PairFinder" "workBox" "LPairFinder$Box;", Cond.methodLink RX3 232 yX1_copyFrom, Cond.instanceMethod yX1_copyFrom, Cond.selects RX1 yX1_copyFrom yX1_copyFrom, Cond.code yX1_copyFrom cX1_copyFrom 2 none, Cond.methodLink RX1 15 arraycopyName, Cond.native arraycopyName, Cond.static arraycopyName, Cond.initialized "java/lang/System", Cond.methodLink RX3 235 yX1_moveBy, Cond.instanceMethod yX1_moveBy, Cond.selects RX1 yX1_moveBy yX1_moveBy, Cond.code yX1_moveBy cX1_moveBy 5 none, Cond.methodLink RX3 238 yX1_isGood, Cond.instanceMethod yX1_isGood, Cond.selects RX1 yX1_isGood yX1_isGood, Cond.code yX1_isGood cX1_isGood 2 (some .boolean), Cond.methodLink RX3 61 yX3_requireRoomFor, Cond.instanceMethod yX3_requireRoomFor, Cond.selects RX3 yX3_requireRoomFor yX3_requireRoomFor, Cond.code yX3_requireRoomFor cX3_requireRoomFor 2 none, Cond.classLink RX3 145 "java/lang/IllegalStateException", Cond.initialized "java/lang/IllegalStateException", Cond.fieldLink RX3 128 "PairFinder" "bodiesThere" "I"]
def wsX3_addRow_r3 : List Cond := [Cond.methodLink RX3 65 yX3_addBodies, Cond.instanceMethod yX3_addBodies, Cond.selects RX3 yX3_addBodies yX3_addBodies, Cond.code yX3_addBodies cX3_addBodies 10 (some .int), Cond.fieldLink RX3 18 "PairFinder" "bodies" "[LPairFinder$Body;", Cond.fieldLink RX3 101 "PairFinder$Body" "there" "Z", Cond.methodLink RX3 241 yX0_appear, Cond.instanceMethod yX0_appear, Cond.selects RX0 yX0_appear yX0_appear, Cond.initialized RX0, Cond.code yX0_appear cX0_appear 4 none, Cond.fieldLink RX0 19 "PairFinder$Body" "there" "Z", Cond.fieldLink RX0 10 "PairFinder$Body" "tight" "LPairFinder$Box;", Cond.fieldLink RX0 16 "PairFinder$Body" "wide" "LPairFinder$Box;", Cond.methodLink RX0 23 yX1_copyFrom, Cond.methodLink RX0 27 yX1_widen, Cond.instanceMethod yX1_widen, Cond.selects RX1 yX1_widen yX1_widen, Cond.code yX1_widen cX1_widen 4 none, Cond.methodLink RX1 21 yX1_widenAxis, Cond.instanceMethod yX1_widenAxis, Cond.selects RX1 yX1_widenAxis yX1_widenAxis, Cond.code yX1_widenAxis cX1_widenAxis 5 none, Cond.constantFloat RX1 25 (1048576000)]
def wsX3_addRow_r4 : List Cond := [Cond.methodLink RX0 31 yX0_setFilter, Cond.instanceMethod yX0_setFilter, Cond.selects RX0 yX0_setFilter yX0_setFilter, Cond.code yX0_setFilter cX0_setFilter 3 none, Cond.fieldLink RX0 38 "PairFinder$Body" "group" "I", Cond.fieldLink RX0 42 "PairFinder$Body" "mask" "I", Cond.fieldLink RX0 35 "PairFinder$Body" "touched" "Z"]
def wsX3_addRow : List Cond := .code yX3_addRow cX3_addRow 7 (some .int) :: ((wsX3_addRow_r1 ++ (wsX3_addRow_r2 ++ (wsX3_addRow_r3 ++ wsX3_addRow_r4))) ++ wsX30 ++ wsX10 ++ wsX00 ++ (vx_atS RX3 73 "java/lang/IllegalArgumentException" ["java/lang/RuntimeException", "java/lang/Exception"]).filter goodWord ++ (vx_atS RX3 149 "java/lang/IllegalStateException" ["java/lang/RuntimeException", "java/lang/Exception"]).filter goodWord)
def wsX3_isBodyNumber : List Cond := .code yX3_isBodyNumber cX3_isBodyNumber 1 (some .boolean) :: ([])
def wsX3_requireThere : List Cond := .code yX3_requireThere cX3_requireThere 2 none :: ([.classLink RX3 96 "java/lang/IndexOutOfBoundsException", .initialized "java/lang/IndexOutOfBoundsException", .fieldLink RX3 18 "PairFinder" "bodies" "[LPairFinder$Body;", .fieldLink RX3 101 "PairFinder$Body" "there" "Z", .methodLink RX3 92 yX3_isBodyNumber, .static yX3_isBodyNumber, .initialized RX3, .code yX3_isBodyNumber cX3_isBodyNumber 1 (some .boolean)] ++ wsX30 ++ wsX00 ++ (vx_atS RX3 100 "java/lang/IndexOutOfBoundsException" ["java/lang/RuntimeException", "java/lang/Exception"]).filter goodWord)
def wsX3_move_r1 : List Cond := [Cond.fieldLink RX3 18 "PairFinder" "bodies" "[LPairFinder$Body;", Cond.fieldLink RX3 10 "PairFinder" "pad" "LPairFinder$Box;", Cond.methodLink RX3 85 yX3_requireThere, Cond.instanceMethod yX3_requireThere, Cond.selects RX3 yX3_requireThere yX3_requireThere, Cond.initialized RX3, Cond.code yX3_requireThere cX3_requireThere 2 none, Cond.classLink RX3 96 "java/lang/IndexOutOfBoundsException", Cond.initialized "java/lang/IndexOutOfBoundsException", Cond.fieldLink RX3 101 "PairFinder$Body" "there" "Z", Cond.methodLink RX3 92 yX3_isBodyNumber, Cond.static yX3_isBodyNumber, Cond.code yX3_isBodyNumber cX3_isBodyNumber 1 (some .boolean), Cond.methodLink RX3 58 yX3_requirePadIsBox, Cond.instanceMethod yX3_requirePadIsBox, Cond.selects RX3 yX3_requirePadIsBox yX3_requirePadIsBox, Cond.code yX3_requirePadIsBox cX3_requirePadIsBox 1 none, Cond.classLink RX3 69 "java/lang/IllegalArgumentException", Cond.initialized "java/lang/IllegalArgumentException", Cond.methodLink RX3 220 yX1_isBox, Cond.instanceMethod yX1_isBox, Cond.selects RX1 yX1_isBox yX1_isBox, Cond.initialized RX1, Cond.code yX1_isBox cX1_isBox 2 (some .boolean)]
def wsX3_move_r2 : List Cond := [Cond.fieldLink RX1 11 "PairFinder$Box" "numbers" "[F", Cond.methodLink RX3 76 yX3_requireMovement, Cond.static yX3_requireMovement, Cond.code yX3_requireMovement cX3_requireMovement 3 none, Cond.methodLink RX3 212 yX3_isWithin, Cond.static yX3_isWithin, Cond.code yX3_isWithin cX3_isWithin 2 (some .boolean), Cond.methodLink RX3 88 yX0_moveTo, Cond.instanceMethod yX0_moveTo, Cond.selects RX0 yX0_moveTo yX0_moveTo, Cond.initialized RX0, Cond.code yX0_moveTo cX0_moveTo 5 (some .boolean), Cond.fieldLink RX0 10 "PairFinder$Body" "tight" "LPairFinder$Box;", Cond.fieldLink RX0 16 "PairFinder$Body" "wide" "LPairFinder$Box;", Cond.fieldLink RX0 35 "PairFinder$Body" "touched" "Z", Cond.methodLink RX0 23 yX1_copyFrom, Cond.instanceMethod yX1_copyFrom, Cond.selects RX1 yX1_copyFrom yX1_copyFrom, Cond.code yX1_copyFrom cX1_copyFrom 2 none, Cond.methodLink RX1 15 arraycopyName, Cond.native arraycopyName, Cond.static arraycopyName, Cond.initialized "java/lang/System", Cond.methodLink RX0 45 yX1_liesIn]
def wsX3_move_r3 : List Cond := [Cond.instanceMethod yX1_liesIn, Cond.selects RX1 yX1_liesIn yX1_liesIn, Cond.code yX1_liesIn cX1_liesIn 3 (some .boolean), Cond.methodLink RX0 27 yX1_widen, Cond.instanceMethod yX1_widen, Cond.selects RX1 yX1_widen yX1_widen, Cond.code yX1_widen cX1_widen 4 none, Cond.methodLink RX1 21 yX1_widenAxis, Cond.instanceMethod yX1_widenAxis, Cond.selects RX1 yX1_widenAxis yX1_widenAxis, Cond.code yX1_widenAxis cX1_widenAxis 5 none, Cond.constantFloat RX1 25 (1048576000)]
def wsX3_move : List Cond := .code yX3_move cX3_move 5 (some .boolean) :: ((wsX3_move_r1 ++ (wsX3_move_r2 ++ wsX3_move_r3)) ++ wsX30 ++ wsX00 ++ wsX10 ++ (vx_atS RX3 100 "java/lang/IndexOutOfBoundsException" ["java/lang/RuntimeException", "java/lang/Exception"]).filter goodWord ++ (vx_atS RX3 73 "java/lang/IllegalArgumentException" ["java/lang/RuntimeException", "java/lang/Exception"]).filter goodWord)
def wsX3_shiftBody_r1 : List Cond := [Cond.fieldLink RX3 47 "PairFinder" "workBox" "LPairFinder$Box;", Cond.fieldLink RX3 195 "PairFinder$Body" "tight" "LPairFinder$Box;", Cond.methodLink RX3 232 yX1_copyFrom, Cond.instanceMethod yX1_copyFrom, Cond.selects RX1 yX1_copyFrom yX1_copyFrom, Cond.initialized RX1, Cond.code yX1_copyFrom cX1_copyFrom 2 none, Cond.fieldLink RX1 11 "PairFinder$Box" "numbers" "[F", Cond.methodLink RX1 15 arraycopyName, Cond.native arraycopyName, Cond.static arraycopyName, Cond.initialized "java/lang/System", Cond.methodLink RX3 235 yX1_moveBy, Cond.instanceMethod yX1_moveBy, Cond.selects RX1 yX1_moveBy yX1_moveBy, Cond.code yX1_moveBy cX1_moveBy 5 none, Cond.methodLink RX3 238 yX1_isGood, Cond.instanceMethod yX1_isGood, Cond.selects RX1 yX1_isGood yX1_isGood, Cond.code yX1_isGood cX1_isGood 2 (some .boolean), Cond.static yX3_isWithin, Cond.initialized RX3, Cond.code yX3_isWithin cX3_isWithin 2 (some .boolean), Cond.methodLink RX3 88 yX0_moveTo]
def wsX3_shiftBody_r2 : List Cond := [Cond.instanceMethod yX0_moveTo, Cond.selects RX0 yX0_moveTo yX0_moveTo, Cond.initialized RX0, Cond.code yX0_moveTo cX0_moveTo 5 (some .boolean), Cond.fieldLink RX0 10 "PairFinder$Body" "tight" "LPairFinder$Box;", Cond.fieldLink RX0 16 "PairFinder$Body" "wide" "LPairFinder$Box;", Cond.fieldLink RX0 35 "PairFinder$Body" "touched" "Z", Cond.methodLink RX0 23 yX1_copyFrom, Cond.methodLink RX0 45 yX1_liesIn, Cond.instanceMethod yX1_liesIn, Cond.selects RX1 yX1_liesIn yX1_liesIn, Cond.code yX1_liesIn cX1_liesIn 3 (some .boolean), Cond.methodLink RX0 27 yX1_widen, Cond.instanceMethod yX1_widen, Cond.selects RX1 yX1_widen yX1_widen, Cond.code yX1_widen cX1_widen 4 none, Cond.methodLink RX1 21 yX1_widenAxis, Cond.instanceMethod yX1_widenAxis, Cond.selects RX1 yX1_widenAxis yX1_widenAxis, Cond.code yX1_widenAxis cX1_widenAxis 5 none, Cond.constantFloat RX1 25 (1048576000)]
def wsX3_shiftBody : List Cond := .code yX3_shiftBody cX3_shiftBody 5 (some .boolean) :: ((wsX3_shiftBody_r1 ++ wsX3_shiftBody_r2) ++ wsX30 ++ wsX00 ++ wsX10)
def wsX3_shift_r1 : List Cond := [Cond.classLink RX3 96 "java/lang/IndexOutOfBoundsException", Cond.initialized "java/lang/IndexOutOfBoundsException", Cond.fieldLink RX3 18 "PairFinder" "bodies" "[LPairFinder$Body;", Cond.fieldLink RX3 101 "PairFinder$Body" "there" "Z", Cond.methodLink RX3 92 yX3_isBodyNumber, Cond.static yX3_isBodyNumber, Cond.initialized RX3, Cond.code yX3_isBodyNumber cX3_isBodyNumber 1 (some .boolean), Cond.methodLink RX3 76 yX3_requireMovement, Cond.static yX3_requireMovement, Cond.code yX3_requireMovement cX3_requireMovement 3 none, Cond.classLink RX3 69 "java/lang/IllegalArgumentException", Cond.initialized "java/lang/IllegalArgumentException", Cond.methodLink RX3 212 yX3_isWithin, Cond.static yX3_isWithin, Cond.code yX3_isWithin cX3_isWithin 2 (some .boolean), Cond.methodLink RX3 105 yX3_shiftBody, Cond.instanceMethod yX3_shiftBody, Cond.selects RX3 yX3_shiftBody yX3_shiftBody, Cond.code yX3_shiftBody cX3_shiftBody 5 (some .boolean), Cond.fieldLink RX3 47 "PairFinder" "workBox" "LPairFinder$Box;", Cond.fieldLink RX3 195 "PairFinder$Body" "tight" "LPairFinder$Box;", Cond.methodLink RX3 232 yX1_copyFrom, Cond.instanceMethod yX1_copyFrom]
def wsX3_shift_r2 : List Cond := [Cond.selects RX1 yX1_copyFrom yX1_copyFrom, Cond.initialized RX1, Cond.code yX1_copyFrom cX1_copyFrom 2 none, Cond.fieldLink RX1 11 "PairFinder$Box" "numbers" "[F", Cond.methodLink RX1 15 arraycopyName, Cond.native arraycopyName, Cond.static arraycopyName, Cond.initialized "java/lang/System", Cond.methodLink RX3 235 yX1_moveBy, Cond.instanceMethod yX1_moveBy, Cond.selects RX1 yX1_moveBy yX1_moveBy, Cond.code yX1_moveBy cX1_moveBy 5 none, Cond.methodLink RX3 238 yX1_isGood, Cond.instanceMethod yX1_isGood, Cond.selects RX1 yX1_isGood yX1_isGood, Cond.code yX1_isGood cX1_isGood 2 (some .boolean), Cond.methodLink RX3 88 yX0_moveTo, Cond.instanceMethod yX0_moveTo, Cond.selects RX0 yX0_moveTo yX0_moveTo, Cond.initialized RX0, Cond.code yX0_moveTo cX0_moveTo 5 (some .boolean), Cond.fieldLink RX0 10 "PairFinder$Body" "tight" "LPairFinder$Box;", Cond.fieldLink RX0 16 "PairFinder$Body" "wide" "LPairFinder$Box;", Cond.fieldLink RX0 35 "PairFinder$Body" "touched" "Z"]
def wsX3_shift_r3 : List Cond := [Cond.methodLink RX0 23 yX1_copyFrom, Cond.methodLink RX0 45 yX1_liesIn, Cond.instanceMethod yX1_liesIn, Cond.selects RX1 yX1_liesIn yX1_liesIn, Cond.code yX1_liesIn cX1_liesIn 3 (some .boolean), Cond.methodLink RX0 27 yX1_widen, Cond.instanceMethod yX1_widen, Cond.selects RX1 yX1_widen yX1_widen, Cond.code yX1_widen cX1_widen 4 none, Cond.methodLink RX1 21 yX1_widenAxis, Cond.instanceMethod yX1_widenAxis, Cond.selects RX1 yX1_widenAxis yX1_widenAxis, Cond.code yX1_widenAxis cX1_widenAxis 5 none, Cond.constantFloat RX1 25 (1048576000)]
def wsX3_shift : List Cond := .code yX3_shift cX3_shift 8 (some .int) :: ((wsX3_shift_r1 ++ (wsX3_shift_r2 ++ wsX3_shift_r3)) ++ wsX30 ++ wsX00 ++ wsX10 ++ (vx_atS RX3 100 "java/lang/IndexOutOfBoundsException" ["java/lang/RuntimeException", "java/lang/Exception"]).filter goodWord ++ (vx_atS RX3 73 "java/lang/IllegalArgumentException" ["java/lang/RuntimeException", "java/lang/Exception"]).filter goodWord)
def wsX3_filter : List Cond := .code yX3_filter cX3_filter 4 none :: ([.fieldLink RX3 18 "PairFinder" "bodies" "[LPairFinder$Body;", .methodLink RX3 85 yX3_requireThere, .instanceMethod yX3_requireThere, .selects RX3 yX3_requireThere yX3_requireThere, .initialized RX3, .code yX3_requireThere cX3_requireThere 2 none, .classLink RX3 96 "java/lang/IndexOutOfBoundsException", .initialized "java/lang/IndexOutOfBoundsException", .fieldLink RX3 101 "PairFinder$Body" "there" "Z", .methodLink RX3 92 yX3_isBodyNumber, .static yX3_isBodyNumber, .code yX3_isBodyNumber cX3_isBodyNumber 1 (some .boolean), .methodLink RX3 109 yX0_setFilter, .instanceMethod yX0_setFilter, .selects RX0 yX0_setFilter yX0_setFilter, .initialized RX0, .code yX0_setFilter cX0_setFilter 3 none, .fieldLink RX0 38 "PairFinder$Body" "group" "I", .fieldLink RX0 42 "PairFinder$Body" "mask" "I", .fieldLink RX0 35 "PairFinder$Body" "touched" "Z"] ++ wsX30 ++ wsX00 ++ (vx_atS RX3 100 "java/lang/IndexOutOfBoundsException" ["java/lang/RuntimeException", "java/lang/Exception"]).filter goodWord)
def wsX3_pairCode : List Cond := .code yX3_pairCode cX3_pairCode 2 (some .int) :: ([])
def wsX3_arePair : List Cond := .code yX3_arePair cX3_arePair 3 (some .boolean) :: ([.fieldLink RX3 26 "PairFinder" "pairs" "LPairFinder$PairSet;", .methodLink RX3 117 yX3_pairCode, .static yX3_pairCode, .initialized RX3, .code yX3_pairCode cX3_pairCode 2 (some .int), .methodLink RX3 249 yX2_holds, .instanceMethod yX2_holds, .selects RX2 yX2_holds yX2_holds, .initialized RX2, .code yX2_holds cX2_holds 2 (some .boolean), .fieldLink RX2 11 "PairFinder$PairSet" "words" "[J"] ++ wsX30 ++ wsX20)
def wsX3_remove_r1 : List Cond := [Cond.fieldLink RX3 26 "PairFinder" "pairs" "LPairFinder$PairSet;", Cond.fieldLink RX3 18 "PairFinder" "bodies" "[LPairFinder$Body;", Cond.fieldLink RX3 128 "PairFinder" "bodiesThere" "I", Cond.methodLink RX3 85 yX3_requireThere, Cond.instanceMethod yX3_requireThere, Cond.selects RX3 yX3_requireThere yX3_requireThere, Cond.initialized RX3, Cond.code yX3_requireThere cX3_requireThere 2 none, Cond.classLink RX3 96 "java/lang/IndexOutOfBoundsException", Cond.initialized "java/lang/IndexOutOfBoundsException", Cond.fieldLink RX3 101 "PairFinder$Body" "there" "Z", Cond.methodLink RX3 92 yX3_isBodyNumber, Cond.static yX3_isBodyNumber, Cond.code yX3_isBodyNumber cX3_isBodyNumber 1 (some .boolean), Cond.methodLink RX3 113 yX3_arePair, Cond.instanceMethod yX3_arePair, Cond.selects RX3 yX3_arePair yX3_arePair, Cond.code yX3_arePair cX3_arePair 3 (some .boolean), Cond.methodLink RX3 117 yX3_pairCode, Cond.static yX3_pairCode, Cond.code yX3_pairCode cX3_pairCode 2 (some .int), Cond.methodLink RX3 249 yX2_holds, Cond.instanceMethod yX2_holds, Cond.selects RX2 yX2_holds yX2_holds]
def wsX3_remove_r2 : List Cond := [Cond.initialized RX2, Cond.code yX2_holds cX2_holds 2 (some .boolean), Cond.fieldLink RX2 11 "PairFinder$PairSet" "words" "[J", Cond.methodLink RX3 121 yX2_put, Cond.instanceMethod yX2_put, Cond.selects RX2 yX2_put yX2_put, Cond.code yX2_put cX2_put 3 none, Cond.fieldLink RX2 19 "PairFinder$PairSet" "size" "I", Cond.methodLink RX2 15 yX2_holds, Cond.methodLink RX3 125 yX0_leave, Cond.instanceMethod yX0_leave, Cond.selects RX0 yX0_leave yX0_leave, Cond.initialized RX0, Cond.code yX0_leave cX0_leave 1 none, Cond.fieldLink RX0 19 "PairFinder$Body" "there" "Z", Cond.fieldLink RX0 35 "PairFinder$Body" "touched" "Z"]
def wsX3_remove : List Cond := .code yX3_remove cX3_remove 4 (some .int) :: ((wsX3_remove_r1 ++ wsX3_remove_r2) ++ wsX30 ++ wsX00 ++ wsX20 ++ (vx_atS RX3 100 "java/lang/IndexOutOfBoundsException" ["java/lang/RuntimeException", "java/lang/Exception"]).filter goodWord)
def wsX3_reviewPairsOf_r1 : List Cond := [Cond.fieldLink RX3 18 "PairFinder" "bodies" "[LPairFinder$Body;", Cond.fieldLink RX3 136 "PairFinder$Body" "touched" "Z", Cond.fieldLink RX3 30 "PairFinder" "nextPairs" "LPairFinder$PairSet;", Cond.methodLink RX3 117 yX3_pairCode, Cond.static yX3_pairCode, Cond.initialized RX3, Cond.code yX3_pairCode cX3_pairCode 2 (some .int), Cond.methodLink RX3 245 yX0_pairsWith, Cond.instanceMethod yX0_pairsWith, Cond.selects RX0 yX0_pairsWith yX0_pairsWith, Cond.initialized RX0, Cond.code yX0_pairsWith cX0_pairsWith 2 (some .boolean), Cond.fieldLink RX0 19 "PairFinder$Body" "there" "Z", Cond.fieldLink RX0 38 "PairFinder$Body" "group" "I", Cond.fieldLink RX0 42 "PairFinder$Body" "mask" "I", Cond.fieldLink RX0 16 "PairFinder$Body" "wide" "LPairFinder$Box;", Cond.methodLink RX0 49 yX1_overlaps, Cond.instanceMethod yX1_overlaps, Cond.selects RX1 yX1_overlaps yX1_overlaps, Cond.initialized RX1, Cond.code yX1_overlaps cX1_overlaps 3 (some .boolean), Cond.fieldLink RX1 11 "PairFinder$Box" "numbers" "[F", Cond.methodLink RX3 121 yX2_put, Cond.instanceMethod yX2_put]
def wsX3_reviewPairsOf_r2 : List Cond := [Cond.selects RX2 yX2_put yX2_put, Cond.initialized RX2, Cond.code yX2_put cX2_put 3 none, Cond.fieldLink RX2 11 "PairFinder$PairSet" "words" "[J", Cond.fieldLink RX2 19 "PairFinder$PairSet" "size" "I", Cond.methodLink RX2 15 yX2_holds, Cond.instanceMethod yX2_holds, Cond.selects RX2 yX2_holds yX2_holds, Cond.code yX2_holds cX2_holds 2 (some .boolean)]
def wsX3_reviewPairsOf : List Cond := .code yX3_reviewPairsOf cX3_reviewPairsOf 5 none :: ((wsX3_reviewPairsOf_r1 ++ wsX3_reviewPairsOf_r2) ++ wsX30 ++ wsX00 ++ wsX10 ++ wsX20)
def wsX3_update_r1 : List Cond := [Cond.classLink RX3 145 "java/lang/IllegalStateException", Cond.initialized "java/lang/IllegalStateException", Cond.fieldLink RX3 30 "PairFinder" "nextPairs" "LPairFinder$PairSet;", Cond.fieldLink RX3 26 "PairFinder" "pairs" "LPairFinder$PairSet;", Cond.fieldLink RX3 18 "PairFinder" "bodies" "[LPairFinder$Body;", Cond.fieldLink RX3 136 "PairFinder$Body" "touched" "Z", Cond.fieldLink RX3 142 "PairFinder$PairSet" "size" "I", Cond.fieldLink RX3 33 "PairFinder" "begun" "LPairFinder$PairSet;", Cond.fieldLink RX3 36 "PairFinder" "ended" "LPairFinder$PairSet;", Cond.fieldLink RX3 154 "PairFinder" "updates" "I", Cond.methodLink RX3 132 yX2_copyFrom, Cond.instanceMethod yX2_copyFrom, Cond.selects RX2 yX2_copyFrom yX2_copyFrom, Cond.initialized RX2, Cond.code yX2_copyFrom cX2_copyFrom 2 none, Cond.fieldLink RX2 11 "PairFinder$PairSet" "words" "[J", Cond.methodLink RX2 23 arraycopyName, Cond.native arraycopyName, Cond.static arraycopyName, Cond.initialized "java/lang/System", Cond.fieldLink RX2 19 "PairFinder$PairSet" "size" "I", Cond.methodLink RX3 139 yX3_reviewPairsOf, Cond.instanceMethod yX3_reviewPairsOf, Cond.selects RX3 yX3_reviewPairsOf yX3_reviewPairsOf]
def wsX3_update_r2 : List Cond := [Cond.initialized RX3, Cond.code yX3_reviewPairsOf cX3_reviewPairsOf 5 none, Cond.methodLink RX3 117 yX3_pairCode, Cond.static yX3_pairCode, Cond.code yX3_pairCode cX3_pairCode 2 (some .int), Cond.methodLink RX3 245 yX0_pairsWith, Cond.instanceMethod yX0_pairsWith, Cond.selects RX0 yX0_pairsWith yX0_pairsWith, Cond.initialized RX0, Cond.code yX0_pairsWith cX0_pairsWith 2 (some .boolean), Cond.fieldLink RX0 19 "PairFinder$Body" "there" "Z", Cond.fieldLink RX0 38 "PairFinder$Body" "group" "I", Cond.fieldLink RX0 42 "PairFinder$Body" "mask" "I", Cond.fieldLink RX0 16 "PairFinder$Body" "wide" "LPairFinder$Box;", Cond.methodLink RX0 49 yX1_overlaps, Cond.instanceMethod yX1_overlaps, Cond.selects RX1 yX1_overlaps yX1_overlaps, Cond.initialized RX1, Cond.code yX1_overlaps cX1_overlaps 3 (some .boolean), Cond.fieldLink RX1 11 "PairFinder$Box" "numbers" "[F", Cond.methodLink RX3 121 yX2_put, Cond.instanceMethod yX2_put, Cond.selects RX2 yX2_put yX2_put, Cond.code yX2_put cX2_put 3 none]
def wsX3_update_r3 : List Cond := [Cond.methodLink RX2 15 yX2_holds, Cond.instanceMethod yX2_holds, Cond.selects RX2 yX2_holds yX2_holds, Cond.code yX2_holds cX2_holds 2 (some .boolean), Cond.methodLink RX3 150 yX2_setToDifference, Cond.instanceMethod yX2_setToDifference, Cond.selects RX2 yX2_setToDifference yX2_setToDifference, Cond.code yX2_setToDifference cX2_setToDifference 4 none, Cond.constantLong RX2 29 (-1), Cond.methodLink RX2 31 yJ13_bitCount_95d88, Cond.static yJ13_bitCount_95d88, Cond.initialized RJ13, Cond.code yJ13_bitCount_95d88 cJ13_bitCount_95d88 2 (some .int), Cond.constantLong RJ13 314 (6148914691236517205), Cond.constantLong RJ13 316 (3689348814741910323), Cond.constantLong RJ13 318 (1085102592571150095)]
def wsX3_update : List Cond := .code yX3_update cX3_update 3 (some .int) :: ((wsX3_update_r1 ++ (wsX3_update_r2 ++ wsX3_update_r3)) ++ wsX30 ++ wsX00 ++ wsX20 ++ wsX10 ++ (vx_atS RX3 149 "java/lang/IllegalStateException" ["java/lang/RuntimeException", "java/lang/Exception"]).filter goodWord)
def wsX3_pair : List Cond := .code yX3_pair cX3_pair 4 (some .int) :: ([.classLink RX3 96 "java/lang/IndexOutOfBoundsException", .initialized "java/lang/IndexOutOfBoundsException", .fieldLink RX3 26 "PairFinder" "pairs" "LPairFinder$PairSet;", .fieldLink RX3 33 "PairFinder" "begun" "LPairFinder$PairSet;", .fieldLink RX3 36 "PairFinder" "ended" "LPairFinder$PairSet;", .fieldLink RX3 142 "PairFinder$PairSet" "size" "I", .methodLink RX3 161 yX2_codeAt, .instanceMethod yX2_codeAt, .selects RX2 yX2_codeAt yX2_codeAt, .initialized RX2, .code yX2_codeAt cX2_codeAt 5 (some .int), .fieldLink RX2 11 "PairFinder$PairSet" "words" "[J", .methodLink RX2 31 yJ13_bitCount_95d88, .static yJ13_bitCount_95d88, .initialized RJ13, .code yJ13_bitCount_95d88 cJ13_bitCount_95d88 2 (some .int), .constantLong RJ13 314 (6148914691236517205), .constantLong RJ13 316 (3689348814741910323), .constantLong RJ13 318 (1085102592571150095), .methodLink RX2 37 yX2_bitAt, .static yX2_bitAt, .code yX2_bitAt cX2_bitAt 5 (some .int)] ++ wsX30 ++ wsX20 ++ (vx_atS RX3 100 "java/lang/IndexOutOfBoundsException" ["java/lang/RuntimeException", "java/lang/Exception"]).filter goodWord)
def wsX3_paired_r1 : List Cond := [Cond.methodLink RX3 85 yX3_requireThere, Cond.instanceMethod yX3_requireThere, Cond.selects RX3 yX3_requireThere yX3_requireThere, Cond.initialized RX3, Cond.code yX3_requireThere cX3_requireThere 2 none, Cond.classLink RX3 96 "java/lang/IndexOutOfBoundsException", Cond.initialized "java/lang/IndexOutOfBoundsException", Cond.fieldLink RX3 18 "PairFinder" "bodies" "[LPairFinder$Body;", Cond.fieldLink RX3 101 "PairFinder$Body" "there" "Z", Cond.methodLink RX3 92 yX3_isBodyNumber, Cond.static yX3_isBodyNumber, Cond.code yX3_isBodyNumber cX3_isBodyNumber 1 (some .boolean), Cond.methodLink RX3 113 yX3_arePair, Cond.instanceMethod yX3_arePair, Cond.selects RX3 yX3_arePair yX3_arePair, Cond.code yX3_arePair cX3_arePair 3 (some .boolean), Cond.fieldLink RX3 26 "PairFinder" "pairs" "LPairFinder$PairSet;", Cond.methodLink RX3 117 yX3_pairCode, Cond.static yX3_pairCode, Cond.code yX3_pairCode cX3_pairCode 2 (some .int), Cond.methodLink RX3 249 yX2_holds, Cond.instanceMethod yX2_holds, Cond.selects RX2 yX2_holds yX2_holds, Cond.initialized RX2]
def wsX3_paired_r2 : List Cond := [Cond.code yX2_holds cX2_holds 2 (some .boolean), Cond.fieldLink RX2 11 "PairFinder$PairSet" "words" "[J"]
def wsX3_paired : List Cond := .code yX3_paired cX3_paired 3 (some .boolean) :: ((wsX3_paired_r1 ++ wsX3_paired_r2) ++ wsX30 ++ wsX00 ++ wsX20 ++ (vx_atS RX3 100 "java/lang/IndexOutOfBoundsException" ["java/lang/RuntimeException", "java/lang/Exception"]).filter goodWord)
def wsX3_appendFound : List Cond := .code yX3_appendFound cX3_appendFound 3 none :: ([.fieldLink RX3 165 "PairFinder" "foundSize" "I", .fieldLink RX3 39 "PairFinder" "foundBodies" "[I", .fieldLink RX3 43 "PairFinder" "foundFloats" "[F"] ++ wsX30)
def wsX3_overlapping_r1 : List Cond := [Cond.fieldLink RX3 165 "PairFinder" "foundSize" "I", Cond.fieldLink RX3 18 "PairFinder" "bodies" "[LPairFinder$Body;", Cond.fieldLink RX3 101 "PairFinder$Body" "there" "Z", Cond.fieldLink RX3 168 "PairFinder$Body" "group" "I", Cond.fieldLink RX3 171 "PairFinder$Body" "wide" "LPairFinder$Box;", Cond.fieldLink RX3 10 "PairFinder" "pad" "LPairFinder$Box;", Cond.methodLink RX3 58 yX3_requirePadIsBox, Cond.instanceMethod yX3_requirePadIsBox, Cond.selects RX3 yX3_requirePadIsBox yX3_requirePadIsBox, Cond.initialized RX3, Cond.code yX3_requirePadIsBox cX3_requirePadIsBox 1 none, Cond.classLink RX3 69 "java/lang/IllegalArgumentException", Cond.initialized "java/lang/IllegalArgumentException", Cond.methodLink RX3 220 yX1_isBox, Cond.instanceMethod yX1_isBox, Cond.selects RX1 yX1_isBox yX1_isBox, Cond.initialized RX1, Cond.code yX1_isBox cX1_isBox 2 (some .boolean), Cond.fieldLink RX1 11 "PairFinder$Box" "numbers" "[F", Cond.methodLink RX3 174 yX1_overlaps, Cond.instanceMethod yX1_overlaps, Cond.selects RX1 yX1_overlaps yX1_overlaps, Cond.code yX1_overlaps cX1_overlaps 3 (some .boolean), Cond.methodLink RX3 178 yX3_appendFound]
def wsX3_overlapping_r2 : List Cond := [Cond.instanceMethod yX3_appendFound, Cond.selects RX3 yX3_appendFound yX3_appendFound, Cond.code yX3_appendFound cX3_appendFound 3 none, Cond.fieldLink RX3 39 "PairFinder" "foundBodies" "[I", Cond.fieldLink RX3 43 "PairFinder" "foundFloats" "[F"]
def wsX3_overlapping : List Cond := .code yX3_overlapping cX3_overlapping 4 (some .int) :: ((wsX3_overlapping_r1 ++ wsX3_overlapping_r2) ++ wsX30 ++ wsX00 ++ wsX10 ++ (vx_atS RX3 73 "java/lang/IllegalArgumentException" ["java/lang/RuntimeException", "java/lang/Exception"]).filter goodWord)
def wsX3_meeting : List Cond := .code yX3_meeting cX3_meeting 5 (some .int) :: ([.fieldLink RX3 165 "PairFinder" "foundSize" "I", .fieldLink RX3 18 "PairFinder" "bodies" "[LPairFinder$Body;", .fieldLink RX3 101 "PairFinder$Body" "there" "Z", .fieldLink RX3 168 "PairFinder$Body" "group" "I", .fieldLink RX3 171 "PairFinder$Body" "wide" "LPairFinder$Box;", .fieldLink RX3 10 "PairFinder" "pad" "LPairFinder$Box;", .constantFloat RX3 186 (3212836864), .methodLink RX3 182 yX1_enterOfLine, .instanceMethod yX1_enterOfLine, .selects RX1 yX1_enterOfLine yX1_enterOfLine, .initialized RX1, .code yX1_enterOfLine cX1_enterOfLine 11 (some .float), .fieldLink RX1 11 "PairFinder$Box" "numbers" "[F", .constantFloat RX1 30 (3212836864), .methodLink RX3 178 yX3_appendFound, .instanceMethod yX3_appendFound, .selects RX3 yX3_appendFound yX3_appendFound, .initialized RX3, .code yX3_appendFound cX3_appendFound 3 none, .fieldLink RX3 39 "PairFinder" "foundBodies" "[I", .fieldLink RX3 43 "PairFinder" "foundFloats" "[F"] ++ wsX30 ++ wsX00 ++ wsX10)
def wsX3_requireFound : List Cond := .code yX3_requireFound cX3_requireFound 2 none :: ([.classLink RX3 96 "java/lang/IndexOutOfBoundsException", .initialized "java/lang/IndexOutOfBoundsException", .fieldLink RX3 165 "PairFinder" "foundSize" "I"] ++ wsX30 ++ (vx_atS RX3 100 "java/lang/IndexOutOfBoundsException" ["java/lang/RuntimeException", "java/lang/Exception"]).filter goodWord)
def wsX3_found : List Cond := .code yX3_found cX3_found 2 (some .int) :: ([.fieldLink RX3 39 "PairFinder" "foundBodies" "[I", .methodLink RX3 187 yX3_requireFound, .instanceMethod yX3_requireFound, .selects RX3 yX3_requireFound yX3_requireFound, .initialized RX3, .code yX3_requireFound cX3_requireFound 2 none, .classLink RX3 96 "java/lang/IndexOutOfBoundsException", .initialized "java/lang/IndexOutOfBoundsException", .fieldLink RX3 165 "PairFinder" "foundSize" "I"] ++ wsX30 ++ (vx_atS RX3 100 "java/lang/IndexOutOfBoundsException" ["java/lang/RuntimeException", "java/lang/Exception"]).filter goodWord)
def wsX3_where : List Cond := .code yX3_where cX3_where 2 (some .float) :: ([.fieldLink RX3 43 "PairFinder" "foundFloats" "[F", .methodLink RX3 187 yX3_requireFound, .instanceMethod yX3_requireFound, .selects RX3 yX3_requireFound yX3_requireFound, .initialized RX3, .code yX3_requireFound cX3_requireFound 2 none, .classLink RX3 96 "java/lang/IndexOutOfBoundsException", .initialized "java/lang/IndexOutOfBoundsException", .fieldLink RX3 165 "PairFinder" "foundSize" "I"] ++ wsX30 ++ (vx_atS RX3 100 "java/lang/IndexOutOfBoundsException" ["java/lang/RuntimeException", "java/lang/Exception"]).filter goodWord)
def wsX3_nearest : List Cond := .code yX3_nearest cX3_nearest 3 (some .int) :: ([.fieldLink RX3 165 "PairFinder" "foundSize" "I", .fieldLink RX3 43 "PairFinder" "foundFloats" "[F", .fieldLink RX3 39 "PairFinder" "foundBodies" "[I"] ++ wsX30)
def wsX3_corner : List Cond := .code yX3_corner cX3_corner 3 (some .float) :: ([.classLink RX3 96 "java/lang/IndexOutOfBoundsException", .initialized "java/lang/IndexOutOfBoundsException", .fieldLink RX3 18 "PairFinder" "bodies" "[LPairFinder$Body;", .fieldLink RX3 171 "PairFinder$Body" "wide" "LPairFinder$Box;", .fieldLink RX3 192 "PairFinder$Box" "numbers" "[F", .fieldLink RX3 195 "PairFinder$Body" "tight" "LPairFinder$Box;", .methodLink RX3 85 yX3_requireThere, .instanceMethod yX3_requireThere, .selects RX3 yX3_requireThere yX3_requireThere, .initialized RX3, .code yX3_requireThere cX3_requireThere 2 none, .fieldLink RX3 101 "PairFinder$Body" "there" "Z", .methodLink RX3 92 yX3_isBodyNumber, .static yX3_isBodyNumber, .code yX3_isBodyNumber cX3_isBodyNumber 1 (some .boolean)] ++ wsX30 ++ wsX00 ++ wsX10 ++ (vx_atS RX3 100 "java/lang/IndexOutOfBoundsException" ["java/lang/RuntimeException", "java/lang/Exception"]).filter goodWord)
def wsX3_pairsOf : List Cond := .code yX3_pairsOf cX3_pairsOf 4 (some .int) :: ([.methodLink RX3 113 yX3_arePair, .instanceMethod yX3_arePair, .selects RX3 yX3_arePair yX3_arePair, .initialized RX3, .code yX3_arePair cX3_arePair 3 (some .boolean), .fieldLink RX3 26 "PairFinder" "pairs" "LPairFinder$PairSet;", .methodLink RX3 117 yX3_pairCode, .static yX3_pairCode, .code yX3_pairCode cX3_pairCode 2 (some .int), .methodLink RX3 249 yX2_holds, .instanceMethod yX2_holds, .selects RX2 yX2_holds yX2_holds, .initialized RX2, .code yX2_holds cX2_holds 2 (some .boolean), .fieldLink RX2 11 "PairFinder$PairSet" "words" "[J"] ++ wsX30 ++ wsX20)
def wsX3_about_r1 : List Cond := [Cond.classLink RX3 96 "java/lang/IndexOutOfBoundsException", Cond.initialized "java/lang/IndexOutOfBoundsException", Cond.fieldLink RX3 18 "PairFinder" "bodies" "[LPairFinder$Body;", Cond.fieldLink RX3 168 "PairFinder$Body" "group" "I", Cond.fieldLink RX3 198 "PairFinder$Body" "mask" "I", Cond.fieldLink RX3 136 "PairFinder$Body" "touched" "Z", Cond.methodLink RX3 85 yX3_requireThere, Cond.instanceMethod yX3_requireThere, Cond.selects RX3 yX3_requireThere yX3_requireThere, Cond.initialized RX3, Cond.code yX3_requireThere cX3_requireThere 2 none, Cond.fieldLink RX3 101 "PairFinder$Body" "there" "Z", Cond.methodLink RX3 92 yX3_isBodyNumber, Cond.static yX3_isBodyNumber, Cond.code yX3_isBodyNumber cX3_isBodyNumber 1 (some .boolean), Cond.methodLink RX3 201 yX3_pairsOf, Cond.instanceMethod yX3_pairsOf, Cond.selects RX3 yX3_pairsOf yX3_pairsOf, Cond.code yX3_pairsOf cX3_pairsOf 4 (some .int), Cond.methodLink RX3 113 yX3_arePair, Cond.instanceMethod yX3_arePair, Cond.selects RX3 yX3_arePair yX3_arePair, Cond.code yX3_arePair cX3_arePair 3 (some .boolean), Cond.fieldLink RX3 26 "PairFinder" "pairs" "LPairFinder$PairSet;"]
def wsX3_about_r2 : List Cond := [Cond.methodLink RX3 117 yX3_pairCode, Cond.static yX3_pairCode, Cond.code yX3_pairCode cX3_pairCode 2 (some .int), Cond.methodLink RX3 249 yX2_holds, Cond.instanceMethod yX2_holds, Cond.selects RX2 yX2_holds yX2_holds, Cond.initialized RX2, Cond.code yX2_holds cX2_holds 2 (some .boolean), Cond.fieldLink RX2 11 "PairFinder$PairSet" "words" "[J"]
def wsX3_about : List Cond := .code yX3_about cX3_about 3 (some .int) :: ((wsX3_about_r1 ++ wsX3_about_r2) ++ wsX30 ++ wsX00 ++ wsX20 ++ (vx_atS RX3 100 "java/lang/IndexOutOfBoundsException" ["java/lang/RuntimeException", "java/lang/Exception"]).filter goodWord)
def wsX3_touchedBodies : List Cond := .code yX3_touchedBodies cX3_touchedBodies 3 (some .int) :: ([.fieldLink RX3 18 "PairFinder" "bodies" "[LPairFinder$Body;", .fieldLink RX3 136 "PairFinder$Body" "touched" "Z"] ++ wsX30 ++ wsX00)
def wsX3_count : List Cond := .code yX3_count cX3_count 2 (some .int) :: ([.classLink RX3 96 "java/lang/IndexOutOfBoundsException", .initialized "java/lang/IndexOutOfBoundsException", .fieldLink RX3 128 "PairFinder" "bodiesThere" "I", .fieldLink RX3 26 "PairFinder" "pairs" "LPairFinder$PairSet;", .fieldLink RX3 142 "PairFinder$PairSet" "size" "I", .fieldLink RX3 33 "PairFinder" "begun" "LPairFinder$PairSet;", .fieldLink RX3 36 "PairFinder" "ended" "LPairFinder$PairSet;", .fieldLink RX3 154 "PairFinder" "updates" "I", .fieldLink RX3 165 "PairFinder" "foundSize" "I", .methodLink RX3 206 yX3_touchedBodies, .instanceMethod yX3_touchedBodies, .selects RX3 yX3_touchedBodies yX3_touchedBodies, .initialized RX3, .code yX3_touchedBodies cX3_touchedBodies 3 (some .int), .fieldLink RX3 18 "PairFinder" "bodies" "[LPairFinder$Body;", .fieldLink RX3 136 "PairFinder$Body" "touched" "Z"] ++ wsX30 ++ wsX20 ++ wsX00 ++ (vx_atS RX3 100 "java/lang/IndexOutOfBoundsException" ["java/lang/RuntimeException", "java/lang/Exception"]).filter goodWord)
def wsX4_init : List Cond := .code yX4_init cX4_init 1 none :: ([.methodLink RX4 1 objectInit, .instanceMethod objectInit, .code objectInit ⟨#[0xb1]⟩ 1 none, .arrayClass .float, .fieldLink RX4 7 "PairFinderModel" "pad" "[F", .arrayClass .boolean, .fieldLink RX4 13 "PairFinderModel" "there" "[Z", .fieldLink RX4 17 "PairFinderModel" "touched" "[Z", .arrayClass .int, .fieldLink RX4 20 "PairFinderModel" "groups" "[I", .fieldLink RX4 24 "PairFinderModel" "masks" "[I", .fieldLink RX4 27 "PairFinderModel" "tight" "[F", .fieldLink RX4 30 "PairFinderModel" "wide" "[F", .fieldLink RX4 33 "PairFinderModel" "pairs" "[I", .fieldLink RX4 36 "PairFinderModel" "next" "[I", .fieldLink RX4 39 "PairFinderModel" "begun" "[I", .fieldLink RX4 42 "PairFinderModel" "ended" "[I", .fieldLink RX4 45 "PairFinderModel" "list" "[I", .fieldLink RX4 48 "PairFinderModel" "places" "[F", .fieldLink RX4 51 "PairFinderModel" "box" "[F"] ++ wsX40)
def wsX4_thrown : List Cond := .code yX4_thrown cX4_thrown 1 (some .int) :: ([.fieldLink RX4 54 "PairFinderModel" "thrown" "I"] ++ wsX40)
def wsX4_goes : List Cond := .code yX4_goes cX4_goes 3 (some .boolean) :: ([.fieldLink RX4 54 "PairFinderModel" "thrown" "I"] ++ wsX40)
def wsX4_good : List Cond := .code yX4_good cX4_good 1 (some .boolean) :: ([.constantFloat RX4 58 (1182793728), .constantFloat RX4 59 (3330277376)])
def wsX4_slow : List Cond := .code yX4_slow cX4_slow 3 (some .boolean) :: ([.constantFloat RX4 60 (1132462080), .constantFloat RX4 61 (3279945728)])
def wsX4_padIsBox : List Cond := .code yX4_padIsBox cX4_padIsBox 1 (some .boolean) :: ([.fieldLink RX4 7 "PairFinderModel" "pad" "[F"] ++ wsX40)
def wsX4_padCorner : List Cond := .code yX4_padCorner cX4_padCorner 5 none :: ([.fieldLink RX4 7 "PairFinderModel" "pad" "[F", .methodLink RX4 62 yX4_good, .static yX4_good, .initialized RX4, .code yX4_good cX4_good 1 (some .boolean), .constantFloat RX4 58 (1182793728), .constantFloat RX4 59 (3330277376), .methodLink RX4 66 yX4_goes, .instanceMethod yX4_goes, .selects RX4 yX4_goes yX4_goes, .code yX4_goes cX4_goes 3 (some .boolean), .fieldLink RX4 54 "PairFinderModel" "thrown" "I"] ++ wsX40)
def wsX4_low : List Cond := .code yX4_low cX4_low 4 none :: ([.methodLink RX4 70 yX4_padCorner, .instanceMethod yX4_padCorner, .selects RX4 yX4_padCorner yX4_padCorner, .initialized RX4, .code yX4_padCorner cX4_padCorner 5 none, .fieldLink RX4 7 "PairFinderModel" "pad" "[F", .methodLink RX4 62 yX4_good, .static yX4_good, .code yX4_good cX4_good 1 (some .boolean), .constantFloat RX4 58 (1182793728), .constantFloat RX4 59 (3330277376), .methodLink RX4 66 yX4_goes, .instanceMethod yX4_goes, .selects RX4 yX4_goes yX4_goes, .code yX4_goes cX4_goes 3 (some .boolean), .fieldLink RX4 54 "PairFinderModel" "thrown" "I"] ++ wsX40)
def wsX4_high : List Cond := .code yX4_high cX4_high 4 none :: ([.methodLink RX4 70 yX4_padCorner, .instanceMethod yX4_padCorner, .selects RX4 yX4_padCorner yX4_padCorner, .initialized RX4, .code yX4_padCorner cX4_padCorner 5 none, .fieldLink RX4 7 "PairFinderModel" "pad" "[F", .methodLink RX4 62 yX4_good, .static yX4_good, .code yX4_good cX4_good 1 (some .boolean), .constantFloat RX4 58 (1182793728), .constantFloat RX4 59 (3330277376), .methodLink RX4 66 yX4_goes, .instanceMethod yX4_goes, .selects RX4 yX4_goes yX4_goes, .code yX4_goes cX4_goes 3 (some .boolean), .fieldLink RX4 54 "PairFinderModel" "thrown" "I"] ++ wsX40)
def wsX4_known : List Cond := .code yX4_known cX4_known 2 (some .boolean) :: ([.fieldLink RX4 13 "PairFinderModel" "there" "[Z"] ++ wsX40)
def wsX4_widen : List Cond := .code yX4_widen cX4_widen 6 none :: ([.fieldLink RX4 51 "PairFinderModel" "box" "[F", .constantFloat RX4 78 (1048576000), .fieldLink RX4 30 "PairFinderModel" "wide" "[F"] ++ wsX40)
def wsX4_settle : List Cond := .code yX4_settle cX4_settle 6 none :: ([.fieldLink RX4 27 "PairFinderModel" "tight" "[F", .fieldLink RX4 51 "PairFinderModel" "box" "[F", .fieldLink RX4 17 "PairFinderModel" "touched" "[Z", .methodLink RX4 74 yX4_widen, .instanceMethod yX4_widen, .selects RX4 yX4_widen yX4_widen, .initialized RX4, .code yX4_widen cX4_widen 6 none, .constantFloat RX4 78 (1048576000), .fieldLink RX4 30 "PairFinderModel" "wide" "[F"] ++ wsX40)
def wsX4_least : List Cond := .code yX4_least cX4_least 2 (some .int) :: ([.fieldLink RX4 13 "PairFinderModel" "there" "[Z"] ++ wsX40)
def wsX4_put : List Cond := .code yX4_put cX4_put 4 (some .int) :: ([.fieldLink RX4 13 "PairFinderModel" "there" "[Z", .fieldLink RX4 20 "PairFinderModel" "groups" "[I", .fieldLink RX4 24 "PairFinderModel" "masks" "[I", .methodLink RX4 79 yX4_least, .instanceMethod yX4_least, .selects RX4 yX4_least yX4_least, .initialized RX4, .code yX4_least cX4_least 2 (some .int), .methodLink RX4 83 yX4_settle, .instanceMethod yX4_settle, .selects RX4 yX4_settle yX4_settle, .code yX4_settle cX4_settle 6 none, .fieldLink RX4 27 "PairFinderModel" "tight" "[F", .fieldLink RX4 51 "PairFinderModel" "box" "[F", .fieldLink RX4 17 "PairFinderModel" "touched" "[Z", .methodLink RX4 74 yX4_widen, .instanceMethod yX4_widen, .selects RX4 yX4_widen yX4_widen, .code yX4_widen cX4_widen 6 none, .constantFloat RX4 78 (1048576000), .fieldLink RX4 30 "PairFinderModel" "wide" "[F"] ++ wsX40)
def wsX4_takePad : List Cond := .code yX4_takePad cX4_takePad 2 none :: ([.fieldLink RX4 51 "PairFinderModel" "box" "[F", .fieldLink RX4 7 "PairFinderModel" "pad" "[F"] ++ wsX40)
def wsX4_goesOn : List Cond := .code yX4_goesOn cX4_goesOn 7 (some .boolean) :: ([.fieldLink RX4 51 "PairFinderModel" "box" "[F", .methodLink RX4 62 yX4_good, .static yX4_good, .initialized RX4, .code yX4_good cX4_good 1 (some .boolean), .constantFloat RX4 58 (1182793728), .constantFloat RX4 59 (3330277376)] ++ wsX40)
def wsX4_bodies : List Cond := .code yX4_bodies cX4_bodies 3 (some .int) :: ([.fieldLink RX4 13 "PairFinderModel" "there" "[Z"] ++ wsX40)
def wsX4_add_r1 : List Cond := [Cond.methodLink RX4 86 yX4_padIsBox, Cond.instanceMethod yX4_padIsBox, Cond.selects RX4 yX4_padIsBox yX4_padIsBox, Cond.initialized RX4, Cond.code yX4_padIsBox cX4_padIsBox 1 (some .boolean), Cond.fieldLink RX4 7 "PairFinderModel" "pad" "[F", Cond.methodLink RX4 90 yX4_bodies, Cond.instanceMethod yX4_bodies, Cond.selects RX4 yX4_bodies yX4_bodies, Cond.code yX4_bodies cX4_bodies 3 (some .int), Cond.fieldLink RX4 13 "PairFinderModel" "there" "[Z", Cond.methodLink RX4 66 yX4_goes, Cond.instanceMethod yX4_goes, Cond.selects RX4 yX4_goes yX4_goes, Cond.code yX4_goes cX4_goes 3 (some .boolean), Cond.fieldLink RX4 54 "PairFinderModel" "thrown" "I", Cond.methodLink RX4 93 yX4_takePad, Cond.instanceMethod yX4_takePad, Cond.selects RX4 yX4_takePad yX4_takePad, Cond.code yX4_takePad cX4_takePad 2 none, Cond.fieldLink RX4 51 "PairFinderModel" "box" "[F", Cond.methodLink RX4 96 yX4_put, Cond.instanceMethod yX4_put, Cond.selects RX4 yX4_put yX4_put]
def wsX4_add_r2 : List Cond := [Cond.code yX4_put cX4_put 4 (some .int), Cond.fieldLink RX4 20 "PairFinderModel" "groups" "[I", Cond.fieldLink RX4 24 "PairFinderModel" "masks" "[I", Cond.methodLink RX4 79 yX4_least, Cond.instanceMethod yX4_least, Cond.selects RX4 yX4_least yX4_least, Cond.code yX4_least cX4_least 2 (some .int), Cond.methodLink RX4 83 yX4_settle, Cond.instanceMethod yX4_settle, Cond.selects RX4 yX4_settle yX4_settle, Cond.code yX4_settle cX4_settle 6 none, Cond.fieldLink RX4 27 "PairFinderModel" "tight" "[F", Cond.fieldLink RX4 17 "PairFinderModel" "touched" "[Z", Cond.methodLink RX4 74 yX4_widen, Cond.instanceMethod yX4_widen, Cond.selects RX4 yX4_widen yX4_widen, Cond.code yX4_widen cX4_widen 6 none, Cond.constantFloat RX4 78 (1048576000), Cond.fieldLink RX4 30 "PairFinderModel" "wide" "[F"]
def wsX4_add : List Cond := .code yX4_add cX4_add 3 (some .int) :: ((wsX4_add_r1 ++ wsX4_add_r2) ++ wsX40)
def wsX4_addRow_r1 : List Cond := [Cond.methodLink RX4 86 yX4_padIsBox, Cond.instanceMethod yX4_padIsBox, Cond.selects RX4 yX4_padIsBox yX4_padIsBox, Cond.initialized RX4, Cond.code yX4_padIsBox cX4_padIsBox 1 (some .boolean), Cond.fieldLink RX4 7 "PairFinderModel" "pad" "[F", Cond.methodLink RX4 100 yX4_slow, Cond.static yX4_slow, Cond.code yX4_slow cX4_slow 3 (some .boolean), Cond.constantFloat RX4 60 (1132462080), Cond.constantFloat RX4 61 (3279945728), Cond.methodLink RX4 93 yX4_takePad, Cond.instanceMethod yX4_takePad, Cond.selects RX4 yX4_takePad yX4_takePad, Cond.code yX4_takePad cX4_takePad 2 none, Cond.fieldLink RX4 51 "PairFinderModel" "box" "[F", Cond.methodLink RX4 104 yX4_goesOn, Cond.instanceMethod yX4_goesOn, Cond.selects RX4 yX4_goesOn yX4_goesOn, Cond.code yX4_goesOn cX4_goesOn 7 (some .boolean), Cond.methodLink RX4 62 yX4_good, Cond.static yX4_good, Cond.code yX4_good cX4_good 1 (some .boolean), Cond.constantFloat RX4 58 (1182793728)]
def wsX4_addRow_r2 : List Cond := [Cond.constantFloat RX4 59 (3330277376), Cond.methodLink RX4 90 yX4_bodies, Cond.instanceMethod yX4_bodies, Cond.selects RX4 yX4_bodies yX4_bodies, Cond.code yX4_bodies cX4_bodies 3 (some .int), Cond.fieldLink RX4 13 "PairFinderModel" "there" "[Z", Cond.methodLink RX4 66 yX4_goes, Cond.instanceMethod yX4_goes, Cond.selects RX4 yX4_goes yX4_goes, Cond.code yX4_goes cX4_goes 3 (some .boolean), Cond.fieldLink RX4 54 "PairFinderModel" "thrown" "I", Cond.methodLink RX4 96 yX4_put, Cond.instanceMethod yX4_put, Cond.selects RX4 yX4_put yX4_put, Cond.code yX4_put cX4_put 4 (some .int), Cond.fieldLink RX4 20 "PairFinderModel" "groups" "[I", Cond.fieldLink RX4 24 "PairFinderModel" "masks" "[I", Cond.methodLink RX4 79 yX4_least, Cond.instanceMethod yX4_least, Cond.selects RX4 yX4_least yX4_least, Cond.code yX4_least cX4_least 2 (some .int), Cond.methodLink RX4 83 yX4_settle, Cond.instanceMethod yX4_settle, Cond.selects RX4 yX4_settle yX4_settle]
def wsX4_addRow_r3 : List Cond := [Cond.code yX4_settle cX4_settle 6 none, Cond.fieldLink RX4 27 "PairFinderModel" "tight" "[F", Cond.fieldLink RX4 17 "PairFinderModel" "touched" "[Z", Cond.methodLink RX4 74 yX4_widen, Cond.instanceMethod yX4_widen, Cond.selects RX4 yX4_widen yX4_widen, Cond.code yX4_widen cX4_widen 6 none, Cond.constantFloat RX4 78 (1048576000), Cond.fieldLink RX4 30 "PairFinderModel" "wide" "[F"]
def wsX4_addRow : List Cond := .code yX4_addRow cX4_addRow 11 (some .int) :: ((wsX4_addRow_r1 ++ (wsX4_addRow_r2 ++ wsX4_addRow_r3)) ++ wsX40)
def wsX4_moves : List Cond := .code yX4_moves cX4_moves 7 (some .boolean) :: ([.fieldLink RX4 51 "PairFinderModel" "box" "[F", .fieldLink RX4 30 "PairFinderModel" "wide" "[F", .fieldLink RX4 27 "PairFinderModel" "tight" "[F", .methodLink RX4 83 yX4_settle, .instanceMethod yX4_settle, .selects RX4 yX4_settle yX4_settle, .initialized RX4, .code yX4_settle cX4_settle 6 none, .fieldLink RX4 17 "PairFinderModel" "touched" "[Z", .methodLink RX4 74 yX4_widen, .instanceMethod yX4_widen, .selects RX4 yX4_widen yX4_widen, .code yX4_widen cX4_widen 6 none, .constantFloat RX4 78 (1048576000)] ++ wsX40)
def wsX4_move_r1 : List Cond := [Cond.methodLink RX4 107 yX4_known, Cond.instanceMethod yX4_known, Cond.selects RX4 yX4_known yX4_known, Cond.initialized RX4, Cond.code yX4_known cX4_known 2 (some .boolean), Cond.fieldLink RX4 13 "PairFinderModel" "there" "[Z", Cond.methodLink RX4 86 yX4_padIsBox, Cond.instanceMethod yX4_padIsBox, Cond.selects RX4 yX4_padIsBox yX4_padIsBox, Cond.code yX4_padIsBox cX4_padIsBox 1 (some .boolean), Cond.fieldLink RX4 7 "PairFinderModel" "pad" "[F", Cond.methodLink RX4 100 yX4_slow, Cond.static yX4_slow, Cond.code yX4_slow cX4_slow 3 (some .boolean), Cond.constantFloat RX4 60 (1132462080), Cond.constantFloat RX4 61 (3279945728), Cond.methodLink RX4 66 yX4_goes, Cond.instanceMethod yX4_goes, Cond.selects RX4 yX4_goes yX4_goes, Cond.code yX4_goes cX4_goes 3 (some .boolean), Cond.fieldLink RX4 54 "PairFinderModel" "thrown" "I", Cond.methodLink RX4 93 yX4_takePad, Cond.instanceMethod yX4_takePad, Cond.selects RX4 yX4_takePad yX4_takePad]
def wsX4_move_r2 : List Cond := [Cond.code yX4_takePad cX4_takePad 2 none, Cond.fieldLink RX4 51 "PairFinderModel" "box" "[F", Cond.methodLink RX4 111 yX4_moves, Cond.instanceMethod yX4_moves, Cond.selects RX4 yX4_moves yX4_moves, Cond.code yX4_moves cX4_moves 7 (some .boolean), Cond.fieldLink RX4 30 "PairFinderModel" "wide" "[F", Cond.fieldLink RX4 27 "PairFinderModel" "tight" "[F", Cond.methodLink RX4 83 yX4_settle, Cond.instanceMethod yX4_settle, Cond.selects RX4 yX4_settle yX4_settle, Cond.code yX4_settle cX4_settle 6 none, Cond.fieldLink RX4 17 "PairFinderModel" "touched" "[Z", Cond.methodLink RX4 74 yX4_widen, Cond.instanceMethod yX4_widen, Cond.selects RX4 yX4_widen yX4_widen, Cond.code yX4_widen cX4_widen 6 none, Cond.constantFloat RX4 78 (1048576000)]
def wsX4_move : List Cond := .code yX4_move cX4_move 5 (some .boolean) :: ((wsX4_move_r1 ++ wsX4_move_r2) ++ wsX40)
def wsX4_shift_r1 : List Cond := [Cond.fieldLink RX4 51 "PairFinderModel" "box" "[F", Cond.fieldLink RX4 27 "PairFinderModel" "tight" "[F", Cond.fieldLink RX4 13 "PairFinderModel" "there" "[Z", Cond.methodLink RX4 100 yX4_slow, Cond.static yX4_slow, Cond.initialized RX4, Cond.code yX4_slow cX4_slow 3 (some .boolean), Cond.constantFloat RX4 60 (1132462080), Cond.constantFloat RX4 61 (3279945728), Cond.methodLink RX4 66 yX4_goes, Cond.instanceMethod yX4_goes, Cond.selects RX4 yX4_goes yX4_goes, Cond.code yX4_goes cX4_goes 3 (some .boolean), Cond.fieldLink RX4 54 "PairFinderModel" "thrown" "I", Cond.methodLink RX4 104 yX4_goesOn, Cond.instanceMethod yX4_goesOn, Cond.selects RX4 yX4_goesOn yX4_goesOn, Cond.code yX4_goesOn cX4_goesOn 7 (some .boolean), Cond.methodLink RX4 62 yX4_good, Cond.static yX4_good, Cond.code yX4_good cX4_good 1 (some .boolean), Cond.constantFloat RX4 58 (1182793728), Cond.constantFloat RX4 59 (3330277376), Cond.methodLink RX4 111 yX4_moves]
def wsX4_shift_r2 : List Cond := [Cond.instanceMethod yX4_moves, Cond.selects RX4 yX4_moves yX4_moves, Cond.code yX4_moves cX4_moves 7 (some .boolean), Cond.fieldLink RX4 30 "PairFinderModel" "wide" "[F", Cond.methodLink RX4 83 yX4_settle, Cond.instanceMethod yX4_settle, Cond.selects RX4 yX4_settle yX4_settle, Cond.code yX4_settle cX4_settle 6 none, Cond.fieldLink RX4 17 "PairFinderModel" "touched" "[Z", Cond.methodLink RX4 74 yX4_widen, Cond.instanceMethod yX4_widen, Cond.selects RX4 yX4_widen yX4_widen, Cond.code yX4_widen cX4_widen 6 none, Cond.constantFloat RX4 78 (1048576000)]
def wsX4_shift : List Cond := .code yX4_shift cX4_shift 9 (some .int) :: ((wsX4_shift_r1 ++ wsX4_shift_r2) ++ wsX40)
def wsX4_filter : List Cond := .code yX4_filter cX4_filter 4 none :: ([.fieldLink RX4 20 "PairFinderModel" "groups" "[I", .fieldLink RX4 24 "PairFinderModel" "masks" "[I", .fieldLink RX4 17 "PairFinderModel" "touched" "[Z", .methodLink RX4 107 yX4_known, .instanceMethod yX4_known, .selects RX4 yX4_known yX4_known, .initialized RX4, .code yX4_known cX4_known 2 (some .boolean), .fieldLink RX4 13 "PairFinderModel" "there" "[Z", .methodLink RX4 66 yX4_goes, .instanceMethod yX4_goes, .selects RX4 yX4_goes yX4_goes, .code yX4_goes cX4_goes 3 (some .boolean), .fieldLink RX4 54 "PairFinderModel" "thrown" "I"] ++ wsX40)
def wsX4_bit : List Cond := .code yX4_bit cX4_bit 3 (some .boolean) :: ([])
def wsX4_isPair : List Cond := .code yX4_isPair cX4_isPair 3 (some .boolean) :: ([.fieldLink RX4 33 "PairFinderModel" "pairs" "[I", .methodLink RX4 115 yX4_bit, .static yX4_bit, .initialized RX4, .code yX4_bit cX4_bit 3 (some .boolean)] ++ wsX40)
def wsX4_pairsOf : List Cond := .code yX4_pairsOf cX4_pairsOf 4 (some .int) :: ([.methodLink RX4 119 yX4_isPair, .instanceMethod yX4_isPair, .selects RX4 yX4_isPair yX4_isPair, .initialized RX4, .code yX4_isPair cX4_isPair 3 (some .boolean), .fieldLink RX4 33 "PairFinderModel" "pairs" "[I", .methodLink RX4 115 yX4_bit, .static yX4_bit, .code yX4_bit cX4_bit 3 (some .boolean)] ++ wsX40)
def wsX4_remove : List Cond := .code yX4_remove cX4_remove 6 (some .int) :: ([.fieldLink RX4 33 "PairFinderModel" "pairs" "[I", .fieldLink RX4 13 "PairFinderModel" "there" "[Z", .fieldLink RX4 17 "PairFinderModel" "touched" "[Z", .methodLink RX4 107 yX4_known, .instanceMethod yX4_known, .selects RX4 yX4_known yX4_known, .initialized RX4, .code yX4_known cX4_known 2 (some .boolean), .methodLink RX4 66 yX4_goes, .instanceMethod yX4_goes, .selects RX4 yX4_goes yX4_goes, .code yX4_goes cX4_goes 3 (some .boolean), .fieldLink RX4 54 "PairFinderModel" "thrown" "I", .methodLink RX4 123 yX4_pairsOf, .instanceMethod yX4_pairsOf, .selects RX4 yX4_pairsOf yX4_pairsOf, .code yX4_pairsOf cX4_pairsOf 4 (some .int), .methodLink RX4 119 yX4_isPair, .instanceMethod yX4_isPair, .selects RX4 yX4_isPair yX4_isPair, .code yX4_isPair cX4_isPair 3 (some .boolean), .methodLink RX4 115 yX4_bit, .static yX4_bit, .code yX4_bit cX4_bit 3 (some .boolean)] ++ wsX40)
def wsX4_overlap : List Cond := .code yX4_overlap cX4_overlap 5 (some .boolean) :: ([.fieldLink RX4 30 "PairFinderModel" "wide" "[F"] ++ wsX40)
def wsX4_through : List Cond := .code yX4_through cX4_through 3 (some .boolean) :: ([.fieldLink RX4 20 "PairFinderModel" "groups" "[I", .fieldLink RX4 24 "PairFinderModel" "masks" "[I"] ++ wsX40)
def wsX4_bits : List Cond := .code yX4_bits cX4_bits 4 (some .int) :: ([])
def wsX4_look : List Cond := .code yX4_look cX4_look 3 none :: ([.fieldLink RX4 36 "PairFinderModel" "next" "[I", .fieldLink RX4 13 "PairFinderModel" "there" "[Z", .methodLink RX4 127 yX4_through, .instanceMethod yX4_through, .selects RX4 yX4_through yX4_through, .initialized RX4, .code yX4_through cX4_through 3 (some .boolean), .fieldLink RX4 20 "PairFinderModel" "groups" "[I", .fieldLink RX4 24 "PairFinderModel" "masks" "[I", .methodLink RX4 130 yX4_overlap, .instanceMethod yX4_overlap, .selects RX4 yX4_overlap yX4_overlap, .code yX4_overlap cX4_overlap 5 (some .boolean), .fieldLink RX4 30 "PairFinderModel" "wide" "[F"] ++ wsX40)
def wsX4_update_r1 : List Cond := [Cond.fieldLink RX4 36 "PairFinderModel" "next" "[I", Cond.fieldLink RX4 39 "PairFinderModel" "begun" "[I", Cond.fieldLink RX4 33 "PairFinderModel" "pairs" "[I", Cond.fieldLink RX4 42 "PairFinderModel" "ended" "[I", Cond.fieldLink RX4 17 "PairFinderModel" "touched" "[Z", Cond.fieldLink RX4 140 "PairFinderModel" "updates" "I", Cond.methodLink RX4 133 yX4_look, Cond.instanceMethod yX4_look, Cond.selects RX4 yX4_look yX4_look, Cond.initialized RX4, Cond.code yX4_look cX4_look 3 none, Cond.fieldLink RX4 13 "PairFinderModel" "there" "[Z", Cond.methodLink RX4 127 yX4_through, Cond.instanceMethod yX4_through, Cond.selects RX4 yX4_through yX4_through, Cond.code yX4_through cX4_through 3 (some .boolean), Cond.fieldLink RX4 20 "PairFinderModel" "groups" "[I", Cond.fieldLink RX4 24 "PairFinderModel" "masks" "[I", Cond.methodLink RX4 130 yX4_overlap, Cond.instanceMethod yX4_overlap, Cond.selects RX4 yX4_overlap yX4_overlap, Cond.code yX4_overlap cX4_overlap 5 (some .boolean), Cond.fieldLink RX4 30 "PairFinderModel" "wide" "[F", Cond.methodLink RX4 136 yX4_bits]
def wsX4_update_r2 : List Cond := [Cond.static yX4_bits, Cond.code yX4_bits cX4_bits 4 (some .int), Cond.methodLink RX4 66 yX4_goes, Cond.instanceMethod yX4_goes, Cond.selects RX4 yX4_goes yX4_goes, Cond.code yX4_goes cX4_goes 3 (some .boolean), Cond.fieldLink RX4 54 "PairFinderModel" "thrown" "I"]
def wsX4_update : List Cond := .code yX4_update cX4_update 3 (some .int) :: ((wsX4_update_r1 ++ wsX4_update_r2) ++ wsX40)
def wsX4_nth : List Cond := .code yX4_nth cX4_nth 5 (some .int) :: ([])
def wsX4_pair : List Cond := .code yX4_pair cX4_pair 4 (some .int) :: ([.fieldLink RX4 33 "PairFinderModel" "pairs" "[I", .fieldLink RX4 39 "PairFinderModel" "begun" "[I", .fieldLink RX4 42 "PairFinderModel" "ended" "[I", .methodLink RX4 143 yX4_nth, .static yX4_nth, .initialized RX4, .code yX4_nth cX4_nth 5 (some .int), .methodLink RX4 66 yX4_goes, .instanceMethod yX4_goes, .selects RX4 yX4_goes yX4_goes, .code yX4_goes cX4_goes 3 (some .boolean), .fieldLink RX4 54 "PairFinderModel" "thrown" "I"] ++ wsX40)
def wsX4_paired : List Cond := .code yX4_paired cX4_paired 3 (some .boolean) :: ([.methodLink RX4 107 yX4_known, .instanceMethod yX4_known, .selects RX4 yX4_known yX4_known, .initialized RX4, .code yX4_known cX4_known 2 (some .boolean), .fieldLink RX4 13 "PairFinderModel" "there" "[Z", .methodLink RX4 66 yX4_goes, .instanceMethod yX4_goes, .selects RX4 yX4_goes yX4_goes, .code yX4_goes cX4_goes 3 (some .boolean), .fieldLink RX4 54 "PairFinderModel" "thrown" "I", .methodLink RX4 119 yX4_isPair, .instanceMethod yX4_isPair, .selects RX4 yX4_isPair yX4_isPair, .code yX4_isPair cX4_isPair 3 (some .boolean), .fieldLink RX4 33 "PairFinderModel" "pairs" "[I", .methodLink RX4 115 yX4_bit, .static yX4_bit, .code yX4_bit cX4_bit 3 (some .boolean)] ++ wsX40)
def wsX4_overlapping : List Cond := .code yX4_overlapping cX4_overlapping 5 (some .int) :: ([.fieldLink RX4 147 "PairFinderModel" "found" "I", .fieldLink RX4 13 "PairFinderModel" "there" "[Z", .fieldLink RX4 20 "PairFinderModel" "groups" "[I", .fieldLink RX4 30 "PairFinderModel" "wide" "[F", .fieldLink RX4 7 "PairFinderModel" "pad" "[F", .fieldLink RX4 45 "PairFinderModel" "list" "[I", .fieldLink RX4 48 "PairFinderModel" "places" "[F", .methodLink RX4 86 yX4_padIsBox, .instanceMethod yX4_padIsBox, .selects RX4 yX4_padIsBox yX4_padIsBox, .initialized RX4, .code yX4_padIsBox cX4_padIsBox 1 (some .boolean), .methodLink RX4 66 yX4_goes, .instanceMethod yX4_goes, .selects RX4 yX4_goes yX4_goes, .code yX4_goes cX4_goes 3 (some .boolean), .fieldLink RX4 54 "PairFinderModel" "thrown" "I"] ++ wsX40)
def wsX4_enters : List Cond := .code yX4_enters cX4_enters 14 (some .float) :: ([.fieldLink RX4 7 "PairFinderModel" "pad" "[F", .fieldLink RX4 30 "PairFinderModel" "wide" "[F"] ++ wsX40)
def wsX4_meeting : List Cond := .code yX4_meeting cX4_meeting 4 (some .int) :: ([.fieldLink RX4 54 "PairFinderModel" "thrown" "I", .fieldLink RX4 147 "PairFinderModel" "found" "I", .fieldLink RX4 13 "PairFinderModel" "there" "[Z", .fieldLink RX4 20 "PairFinderModel" "groups" "[I", .fieldLink RX4 45 "PairFinderModel" "list" "[I", .fieldLink RX4 48 "PairFinderModel" "places" "[F", .methodLink RX4 150 yX4_enters, .instanceMethod yX4_enters, .selects RX4 yX4_enters yX4_enters, .initialized RX4, .code yX4_enters cX4_enters 14 (some .float), .fieldLink RX4 7 "PairFinderModel" "pad" "[F", .fieldLink RX4 30 "PairFinderModel" "wide" "[F"] ++ wsX40)
def wsX4_found : List Cond := .code yX4_found cX4_found 2 (some .int) :: ([.fieldLink RX4 147 "PairFinderModel" "found" "I", .fieldLink RX4 45 "PairFinderModel" "list" "[I", .methodLink RX4 66 yX4_goes, .instanceMethod yX4_goes, .selects RX4 yX4_goes yX4_goes, .initialized RX4, .code yX4_goes cX4_goes 3 (some .boolean), .fieldLink RX4 54 "PairFinderModel" "thrown" "I"] ++ wsX40)
def wsX4_where : List Cond := .code yX4_where cX4_where 2 (some .float) :: ([.fieldLink RX4 147 "PairFinderModel" "found" "I", .fieldLink RX4 48 "PairFinderModel" "places" "[F", .methodLink RX4 66 yX4_goes, .instanceMethod yX4_goes, .selects RX4 yX4_goes yX4_goes, .initialized RX4, .code yX4_goes cX4_goes 3 (some .boolean), .fieldLink RX4 54 "PairFinderModel" "thrown" "I"] ++ wsX40)
def wsX4_nearest : List Cond := .code yX4_nearest cX4_nearest 3 (some .int) :: ([.fieldLink RX4 54 "PairFinderModel" "thrown" "I", .fieldLink RX4 147 "PairFinderModel" "found" "I", .fieldLink RX4 48 "PairFinderModel" "places" "[F", .fieldLink RX4 45 "PairFinderModel" "list" "[I"] ++ wsX40)
def wsX4_corner : List Cond := .code yX4_corner cX4_corner 3 (some .float) :: ([.fieldLink RX4 30 "PairFinderModel" "wide" "[F", .fieldLink RX4 27 "PairFinderModel" "tight" "[F", .methodLink RX4 107 yX4_known, .instanceMethod yX4_known, .selects RX4 yX4_known yX4_known, .initialized RX4, .code yX4_known cX4_known 2 (some .boolean), .fieldLink RX4 13 "PairFinderModel" "there" "[Z", .methodLink RX4 66 yX4_goes, .instanceMethod yX4_goes, .selects RX4 yX4_goes yX4_goes, .code yX4_goes cX4_goes 3 (some .boolean), .fieldLink RX4 54 "PairFinderModel" "thrown" "I"] ++ wsX40)
def wsX4_about_r1 : List Cond := [Cond.fieldLink RX4 20 "PairFinderModel" "groups" "[I", Cond.fieldLink RX4 24 "PairFinderModel" "masks" "[I", Cond.fieldLink RX4 17 "PairFinderModel" "touched" "[Z", Cond.methodLink RX4 107 yX4_known, Cond.instanceMethod yX4_known, Cond.selects RX4 yX4_known yX4_known, Cond.initialized RX4, Cond.code yX4_known cX4_known 2 (some .boolean), Cond.fieldLink RX4 13 "PairFinderModel" "there" "[Z", Cond.methodLink RX4 66 yX4_goes, Cond.instanceMethod yX4_goes, Cond.selects RX4 yX4_goes yX4_goes, Cond.code yX4_goes cX4_goes 3 (some .boolean), Cond.fieldLink RX4 54 "PairFinderModel" "thrown" "I", Cond.methodLink RX4 123 yX4_pairsOf, Cond.instanceMethod yX4_pairsOf, Cond.selects RX4 yX4_pairsOf yX4_pairsOf, Cond.code yX4_pairsOf cX4_pairsOf 4 (some .int), Cond.methodLink RX4 119 yX4_isPair, Cond.instanceMethod yX4_isPair, Cond.selects RX4 yX4_isPair yX4_isPair, Cond.code yX4_isPair cX4_isPair 3 (some .boolean), Cond.fieldLink RX4 33 "PairFinderModel" "pairs" "[I", Cond.methodLink RX4 115 yX4_bit]
def wsX4_about_r2 : List Cond := [Cond.static yX4_bit, Cond.code yX4_bit cX4_bit 3 (some .boolean)]
def wsX4_about : List Cond := .code yX4_about cX4_about 3 (some .int) :: ((wsX4_about_r1 ++ wsX4_about_r2) ++ wsX40)
def wsX4_count : List Cond := .code yX4_count cX4_count 4 (some .int) :: ([.fieldLink RX4 17 "PairFinderModel" "touched" "[Z", .fieldLink RX4 33 "PairFinderModel" "pairs" "[I", .fieldLink RX4 39 "PairFinderModel" "begun" "[I", .fieldLink RX4 42 "PairFinderModel" "ended" "[I", .fieldLink RX4 140 "PairFinderModel" "updates" "I", .fieldLink RX4 147 "PairFinderModel" "found" "I", .methodLink RX4 66 yX4_goes, .instanceMethod yX4_goes, .selects RX4 yX4_goes yX4_goes, .initialized RX4, .code yX4_goes cX4_goes 3 (some .boolean), .fieldLink RX4 54 "PairFinderModel" "thrown" "I", .methodLink RX4 90 yX4_bodies, .instanceMethod yX4_bodies, .selects RX4 yX4_bodies yX4_bodies, .code yX4_bodies cX4_bodies 3 (some .int), .fieldLink RX4 13 "PairFinderModel" "there" "[Z", .methodLink RX4 136 yX4_bits, .static yX4_bits, .code yX4_bits cX4_bits 4 (some .int)] ++ wsX40)
set_option maxRecDepth 20000 in
theorem ggX0_init_X1_init : GoodIn wsX0_init wsX1_init := goodIn_r _ [10, 11, 2, 3, 12, 13, 14] (by decide +kernel) (by decide +kernel)
set_option maxRecDepth 20000 in
theorem gX0_init_X1_init_n9 : GoodIn wsX0_init (wsX1_init) := ggX0_init_X1_init
set_option maxRecDepth 20000 in
theorem ggX0_appear_X1_copyFrom : GoodIn wsX0_appear wsX1_copyFrom := goodIn_r _ [8, 9, 10, 11, 12, 13, 37] (by decide +kernel) (by decide +kernel)
set_option maxRecDepth 20000 in
theorem gX0_appear_X1_copyFrom : GoodIn wsX0_appear (wsV RX0 23 RX1 yX1_copyFrom wsX1_copyFrom) := goodIn_app (goodIn_of _ (by decide +kernel)) ggX0_appear_X1_copyFrom
set_option maxRecDepth 20000 in
theorem ggX0_appear_X1_widen : GoodIn wsX0_appear wsX1_widen := goodIn_r _ [17, 18, 19, 20, 7, 21, 9, 22, 37] (by decide +kernel) (by decide +kernel)
set_option maxRecDepth 20000 in
theorem gX0_appear_X1_widen : GoodIn wsX0_appear (wsV RX0 27 RX1 yX1_widen wsX1_widen) := goodIn_app (goodIn_of _ (by decide +kernel)) ggX0_appear_X1_widen
set_option maxRecDepth 20000 in
theorem ggX0_appear_X0_setFilter : GoodIn wsX0_appear wsX0_setFilter := goodIn_r _ [27, 28, 29, 30, 31, 32, 33, 34, 35, 36] (by decide +kernel) (by decide +kernel)
set_option maxRecDepth 20000 in
theorem gX0_appear_X0_setFilter : GoodIn wsX0_appear (wsV RX0 31 RX0 yX0_setFilter wsX0_setFilter) := goodIn_app (goodIn_of _ (by decide +kernel)) ggX0_appear_X0_setFilter
set_option maxRecDepth 20000 in
theorem ggX0_moveTo_X1_copyFrom : GoodIn wsX0_moveTo wsX1_copyFrom := goodIn_r _ [8, 9, 10, 11, 12, 13, 33] (by decide +kernel) (by decide +kernel)
set_option maxRecDepth 20000 in
theorem gX0_moveTo_X1_copyFrom : GoodIn wsX0_moveTo (wsV RX0 23 RX1 yX1_copyFrom wsX1_copyFrom) := goodIn_app (goodIn_of _ (by decide +kernel)) ggX0_moveTo_X1_copyFrom
set_option maxRecDepth 20000 in
theorem ggX0_moveTo_X1_liesIn : GoodIn wsX0_moveTo wsX1_liesIn := goodIn_r _ [17, 9, 33] (by decide +kernel) (by decide +kernel)
set_option maxRecDepth 20000 in
theorem gX0_moveTo_X1_liesIn : GoodIn wsX0_moveTo (wsV RX0 45 RX1 yX1_liesIn wsX1_liesIn) := goodIn_app (goodIn_of _ (by decide +kernel)) ggX0_moveTo_X1_liesIn
set_option maxRecDepth 20000 in
theorem ggX0_moveTo_X1_widen : GoodIn wsX0_moveTo wsX1_widen := goodIn_r _ [21, 22, 23, 24, 7, 25, 9, 26, 33] (by decide +kernel) (by decide +kernel)
set_option maxRecDepth 20000 in
theorem gX0_moveTo_X1_widen : GoodIn wsX0_moveTo (wsV RX0 27 RX1 yX1_widen wsX1_widen) := goodIn_app (goodIn_of _ (by decide +kernel)) ggX0_moveTo_X1_widen
set_option maxRecDepth 20000 in
theorem ggX0_pairsWith_X1_overlaps : GoodIn wsX0_pairsWith wsX1_overlaps := goodIn_r _ [9, 10, 17] (by decide +kernel) (by decide +kernel)
set_option maxRecDepth 20000 in
theorem gX0_pairsWith_X1_overlaps : GoodIn wsX0_pairsWith (wsV RX0 49 RX1 yX1_overlaps wsX1_overlaps) := goodIn_app (goodIn_of _ (by decide +kernel)) ggX0_pairsWith_X1_overlaps
set_option maxRecDepth 20000 in
theorem ggX1_widen_X1_widenAxis : GoodIn wsX1_widen wsX1_widenAxis := goodIn_r _ [5, 6, 7, 8] (by decide +kernel) (by decide +kernel)
set_option maxRecDepth 20000 in
theorem gX1_widen_X1_widenAxis : GoodIn wsX1_widen (wsV RX1 21 RX1 yX1_widenAxis wsX1_widenAxis) := goodIn_app (goodIn_of _ (by decide +kernel)) ggX1_widen_X1_widenAxis
set_option maxRecDepth 20000 in
theorem ggX1_isGood_X3_isWithin : GoodIn wsX1_isGood wsX3_isWithin := goodIn_r _ [4] (by decide +kernel) (by decide +kernel)
set_option maxRecDepth 20000 in
theorem gX1_isGood_X3_isWithin_n26 : GoodIn wsX1_isGood (wsX3_isWithin) := ggX1_isGood_X3_isWithin
set_option maxRecDepth 20000 in
theorem ggX2_put_X2_holds : GoodIn wsX2_put wsX2_holds := goodIn_r _ [7, 1, 8, 9] (by decide +kernel) (by decide +kernel)
set_option maxRecDepth 20000 in
theorem gX2_put_X2_holds : GoodIn wsX2_put (wsV RX2 15 RX2 yX2_holds wsX2_holds) := goodIn_app (goodIn_of _ (by decide +kernel)) ggX2_put_X2_holds
set_option maxRecDepth 20000 in
theorem ggX2_setToDifference_J13_bitCount_95d88 : GoodIn wsX2_setToDifference wsJ13_bitCount_95d88 := goodIn_r _ [7, 8, 9, 10] (by decide +kernel) (by decide +kernel)
set_option maxRecDepth 20000 in
theorem gX2_setToDifference_J13_bitCount_95d88 : GoodIn wsX2_setToDifference (va_wsS RX2 31 yJ13_bitCount_95d88 wsJ13_bitCount_95d88) := goodIn_app (goodIn_of _ (by decide +kernel)) ggX2_setToDifference_J13_bitCount_95d88
set_option maxRecDepth 20000 in
theorem ggX2_codeAt_J13_bitCount_95d88 : GoodIn wsX2_codeAt wsJ13_bitCount_95d88 := goodIn_r _ [5, 6, 7, 8] (by decide +kernel) (by decide +kernel)
set_option maxRecDepth 20000 in
theorem gX2_codeAt_J13_bitCount_95d88 : GoodIn wsX2_codeAt (va_wsS RX2 31 yJ13_bitCount_95d88 wsJ13_bitCount_95d88) := goodIn_app (goodIn_of _ (by decide +kernel)) ggX2_codeAt_J13_bitCount_95d88
set_option maxRecDepth 20000 in
theorem ggX2_codeAt_X2_bitAt : GoodIn wsX2_codeAt wsX2_bitAt := goodIn_r _ [12] (by decide +kernel) (by decide +kernel)
set_option maxRecDepth 20000 in
theorem gX2_codeAt_X2_bitAt : GoodIn wsX2_codeAt (va_wsS RX2 37 yX2_bitAt wsX2_bitAt) := goodIn_app (goodIn_of _ (by decide +kernel)) ggX2_codeAt_X2_bitAt
set_option maxRecDepth 20000 in
theorem ggX3_init_X1_init : GoodIn wsX3_init wsX1_init := goodIn_r _ [25, 26, 2, 3, 21, 27, 39] (by decide +kernel) (by decide +kernel)
set_option maxRecDepth 20000 in
theorem gX3_init_X1_init_n9 : GoodIn wsX3_init (wsX1_init) := ggX3_init_X1_init
set_option maxRecDepth 20000 in
theorem ggX3_init_X0_init : GoodIn wsX3_init wsX0_init := goodIn_r _ [29, 30, 2, 3, 31, 5, 6, 32, 33, 24, 25, 26, 21, 27, 39, 52, 53, 54, 55, 56, 57] (by decide +kernel) (by decide +kernel)
set_option maxRecDepth 20000 in
theorem gX3_init_X0_init_n22 : GoodIn wsX3_init (wsX0_init) := ggX3_init_X0_init
set_option maxRecDepth 20000 in
theorem ggX3_init_X2_init : GoodIn wsX3_init wsX2_init := goodIn_r _ [35, 36, 2, 3, 37, 38, 58, 59] (by decide +kernel) (by decide +kernel)
set_option maxRecDepth 20000 in
theorem gX3_init_X2_init_n25 : GoodIn wsX3_init (wsX2_init) := ggX3_init_X2_init
set_option maxRecDepth 20000 in
theorem ggX3_low_X3_requireGood : GoodIn wsX3_low wsX3_requireGood := goodIn_ca (goodIn_r _ [5, 6, 7, 8, 9, 4, 10] (by decide +kernel) (by decide +kernel)) (goodIn_sub (fun _ h => List.mem_cons_of_mem _ (List.mem_append_right _ h)) (by decide +kernel))
set_option maxRecDepth 20000 in
theorem gX3_low_X3_requireGood : GoodIn wsX3_low (va_wsS RX3 50 yX3_requireGood wsX3_requireGood) := goodIn_app (goodIn_of _ (by decide +kernel)) ggX3_low_X3_requireGood
set_option maxRecDepth 20000 in
theorem ggX3_low_X1_setCorner : GoodIn wsX3_low wsX1_setCorner := goodIn_r _ [15, 16, 29] (by decide +kernel) (by decide +kernel)
set_option maxRecDepth 20000 in
theorem gX3_low_X1_setCorner : GoodIn wsX3_low (wsV RX3 54 RX1 yX1_setCorner wsX1_setCorner) := goodIn_app (goodIn_of _ (by decide +kernel)) ggX3_low_X1_setCorner
set_option maxRecDepth 20000 in
theorem ggX3_high_X3_requireGood : GoodIn wsX3_high wsX3_requireGood := goodIn_ca (goodIn_r _ [5, 6, 7, 8, 9, 4, 10] (by decide +kernel) (by decide +kernel)) (goodIn_sub (fun _ h => List.mem_cons_of_mem _ (List.mem_append_right _ h)) (by decide +kernel))
set_option maxRecDepth 20000 in
theorem gX3_high_X3_requireGood : GoodIn wsX3_high (va_wsS RX3 50 yX3_requireGood wsX3_requireGood) := goodIn_app (goodIn_of _ (by decide +kernel)) ggX3_high_X3_requireGood
set_option maxRecDepth 20000 in
theorem ggX3_high_X1_setCorner : GoodIn wsX3_high wsX1_setCorner := goodIn_r _ [15, 16, 29] (by decide +kernel) (by decide +kernel)
set_option maxRecDepth 20000 in
theorem gX3_high_X1_setCorner : GoodIn wsX3_high (wsV RX3 54 RX1 yX1_setCorner wsX1_setCorner) := goodIn_app (goodIn_of _ (by decide +kernel)) ggX3_high_X1_setCorner
set_option maxRecDepth 20000 in
theorem ggX3_add_X3_requirePadIsBox : GoodIn wsX3_add wsX3_requirePadIsBox := goodIn_ca (goodIn_r _ [5, 6, 7, 8, 9, 10, 11, 12, 13, 14, 66, 67, 68, 69, 70, 71, 72, 73, 74, 75, 76, 77, 78] (by decide +kernel) (by decide +kernel)) (goodIn_sub (fun _ h => List.mem_cons_of_mem _ (List.mem_append_left _ (List.mem_append_right _ h))) (by decide +kernel))
set_option maxRecDepth 20000 in
theorem gX3_add_X3_requirePadIsBox : GoodIn wsX3_add (wsV RX3 58 RX3 yX3_requirePadIsBox wsX3_requirePadIsBox) := goodIn_app (goodIn_of _ (by decide +kernel)) ggX3_add_X3_requirePadIsBox
set_option maxRecDepth 20000 in
theorem ggX3_add_X3_requireRoomFor : GoodIn wsX3_add wsX3_requireRoomFor := goodIn_ca (goodIn_r _ [18, 19, 20, 21, 66, 67, 68, 69, 70, 71, 72, 73, 74, 75, 76, 77] (by decide +kernel) (by decide +kernel)) (goodIn_sub (fun _ h => List.mem_cons_of_mem _ (List.mem_append_right _ h)) (by decide +kernel))
set_option maxRecDepth 20000 in
theorem gX3_add_X3_requireRoomFor : GoodIn wsX3_add (wsV RX3 61 RX3 yX3_requireRoomFor wsX3_requireRoomFor) := goodIn_app (goodIn_of _ (by decide +kernel)) ggX3_add_X3_requireRoomFor
set_option maxRecDepth 20000 in
theorem ggX3_add_X3_addBodies : GoodIn wsX3_add wsX3_addBodies := goodIn_r _ [25, 26, 8, 27, 28, 21, 29, 30, 31, 12, 32, 14, 33, 34, 35, 36, 37, 38, 39, 40, 41, 42, 43, 44, 45, 46, 47, 48, 49, 50, 51, 52, 53, 54, 55, 56, 57, 58, 59, 60, 61, 62, 63, 64, 65, 66, 67, 68, 69, 70, 71, 72, 73, 74, 75, 76, 77, 79, 80, 81, 82, 83, 84, 78] (by decide +kernel) (by decide +kernel)
set_option maxRecDepth 20000 in
theorem gX3_add_X3_addBodies : GoodIn wsX3_add (wsV RX3 65 RX3 yX3_addBodies wsX3_addBodies) := goodIn_app (goodIn_of _ (by decide +kernel)) ggX3_add_X3_addBodies
set_option maxRecDepth 20000 in
theorem ggX3_addRow_X3_requirePadIsBox : GoodIn wsX3_addRow wsX3_requirePadIsBox := goodIn_ca (goodIn_r _ [7, 1, 2, 8, 9, 10, 11, 12, 13, 14, 80, 81, 82, 83, 84, 85, 86, 87, 88, 89, 90, 91, 92] (by decide +kernel) (by decide +kernel)) (goodIn_sub (fun _ h => List.mem_cons_of_mem _ (List.mem_append_left _ (List.mem_append_right _ h))) (by decide +kernel))
set_option maxRecDepth 20000 in
theorem gX3_addRow_X3_requirePadIsBox : GoodIn wsX3_addRow (wsV RX3 58 RX3 yX3_requirePadIsBox wsX3_requirePadIsBox) := goodIn_app (goodIn_of _ (by decide +kernel)) ggX3_addRow_X3_requirePadIsBox
set_option maxRecDepth 20000 in
theorem ggX3_addRow_X3_requireMovement : GoodIn wsX3_addRow wsX3_requireMovement := goodIn_ca (goodIn_r _ [17, 1, 2, 18, 19, 6, 20] (by decide +kernel) (by decide +kernel)) (goodIn_sub (fun _ h => List.mem_cons_of_mem _ (List.mem_append_left _ (List.mem_append_right _ h))) (by decide +kernel))
set_option maxRecDepth 20000 in
theorem gX3_addRow_X3_requireMovement : GoodIn wsX3_addRow (va_wsS RX3 76 yX3_requireMovement wsX3_requireMovement) := goodIn_app (goodIn_of _ (by decide +kernel)) ggX3_addRow_X3_requireMovement
set_option maxRecDepth 20000 in
theorem ggX3_addRow_X3_rowStaysGood : GoodIn wsX3_addRow wsX3_rowStaysGood := goodIn_r _ [24, 25, 8, 26, 27, 28, 12, 29, 14, 30, 31, 32, 33, 34, 35, 36, 37, 38, 39, 40, 41, 19, 6, 20, 80, 81, 82, 83, 84, 85, 86, 87, 88, 89, 90, 91, 92] (by decide +kernel) (by decide +kernel)
set_option maxRecDepth 20000 in
theorem gX3_addRow_X3_rowStaysGood : GoodIn wsX3_addRow (wsV RX3 79 RX3 yX3_rowStaysGood wsX3_rowStaysGood) := goodIn_app (goodIn_of _ (by decide +kernel)) ggX3_addRow_X3_rowStaysGood
set_option maxRecDepth 20000 in
theorem ggX3_addRow_X3_requireRoomFor : GoodIn wsX3_addRow wsX3_requireRoomFor := goodIn_ca (goodIn_r _ [45, 46, 47, 48, 80, 81, 82, 83, 84, 85, 86, 87, 88, 89, 90, 91] (by decide +kernel) (by decide +kernel)) (goodIn_sub (fun _ h => List.mem_cons_of_mem _ (List.mem_append_right _ h)) (by decide +kernel))
set_option maxRecDepth 20000 in
theorem gX3_addRow_X3_requireRoomFor : GoodIn wsX3_addRow (wsV RX3 61 RX3 yX3_requireRoomFor wsX3_requireRoomFor) := goodIn_app (goodIn_of _ (by decide +kernel)) ggX3_addRow_X3_requireRoomFor
set_option maxRecDepth 20000 in
theorem ggX3_addRow_X3_addBodies : GoodIn wsX3_addRow wsX3_addBodies := goodIn_r _ [52, 25, 8, 53, 54, 48, 26, 27, 28, 12, 29, 14, 30, 31, 32, 33, 34, 35, 36, 37, 55, 56, 57, 58, 59, 60, 61, 62, 63, 64, 65, 66, 67, 68, 69, 70, 71, 72, 73, 74, 75, 76, 77, 78, 79, 80, 81, 82, 83, 84, 85, 86, 87, 88, 89, 90, 91, 93, 94, 95, 96, 97, 98, 92] (by decide +kernel) (by decide +kernel)
set_option maxRecDepth 20000 in
theorem gX3_addRow_X3_addBodies : GoodIn wsX3_addRow (wsV RX3 65 RX3 yX3_addBodies wsX3_addBodies) := goodIn_app (goodIn_of _ (by decide +kernel)) ggX3_addRow_X3_addBodies
set_option maxRecDepth 20000 in
theorem ggX3_move_X3_requireThere : GoodIn wsX3_move wsX3_requireThere := goodIn_ca (goodIn_r _ [7, 8, 9, 1, 10, 11, 12, 6, 13, 61, 62, 63, 64, 65, 66, 67, 68, 69, 70, 71, 72, 73, 74, 75, 76, 77, 78] (by decide +kernel) (by decide +kernel)) (goodIn_sub (fun _ h => List.mem_cons_of_mem _ (List.mem_append_left _ (List.mem_append_right _ h))) (by decide +kernel))
set_option maxRecDepth 20000 in
theorem gX3_move_X3_requireThere : GoodIn wsX3_move (wsV RX3 85 RX3 yX3_requireThere wsX3_requireThere) := goodIn_app (goodIn_of _ (by decide +kernel)) ggX3_move_X3_requireThere
set_option maxRecDepth 20000 in
theorem ggX3_move_X3_requirePadIsBox : GoodIn wsX3_move wsX3_requirePadIsBox := goodIn_ca (goodIn_r _ [17, 18, 19, 2, 20, 21, 22, 23, 24, 25, 61, 62, 63, 64, 65, 66, 67, 68, 69, 70, 71, 72, 79] (by decide +kernel) (by decide +kernel)) (goodIn_sub (fun _ h => List.mem_cons_of_mem _ (List.mem_append_right _ h)) (by decide +kernel))
set_option maxRecDepth 20000 in
theorem gX3_move_X3_requirePadIsBox : GoodIn wsX3_move (wsV RX3 58 RX3 yX3_requirePadIsBox wsX3_requirePadIsBox) := goodIn_app (goodIn_of _ (by decide +kernel)) ggX3_move_X3_requirePadIsBox
set_option maxRecDepth 20000 in
theorem ggX3_move_X3_requireMovement : GoodIn wsX3_move wsX3_requireMovement := goodIn_ca (goodIn_r _ [28, 18, 19, 29, 30, 6, 31] (by decide +kernel) (by decide +kernel)) (goodIn_sub (fun _ h => List.mem_cons_of_mem _ (List.mem_append_right _ h)) (by decide +kernel))
set_option maxRecDepth 20000 in
theorem gX3_move_X3_requireMovement : GoodIn wsX3_move (va_wsS RX3 76 yX3_requireMovement wsX3_requireMovement) := goodIn_app (goodIn_of _ (by decide +kernel)) ggX3_move_X3_requireMovement
set_option maxRecDepth 20000 in
theorem ggX3_move_X0_moveTo : GoodIn wsX3_move wsX0_moveTo := goodIn_r _ [36, 37, 38, 39, 40, 41, 42, 23, 43, 25, 44, 45, 46, 47, 48, 49, 50, 51, 52, 53, 54, 55, 56, 57, 58, 59, 60, 73, 74, 75, 76, 77, 78, 79] (by decide +kernel) (by decide +kernel)
set_option maxRecDepth 20000 in
theorem gX3_move_X0_moveTo : GoodIn wsX3_move (wsV RX3 88 RX0 yX0_moveTo wsX0_moveTo) := goodIn_app (goodIn_of _ (by decide +kernel)) ggX3_move_X0_moveTo
set_option maxRecDepth 20000 in
theorem ggX3_shift_X3_isBodyNumber : GoodIn wsX3_shift wsX3_isBodyNumber := goodIn_r _ [8] (by decide +kernel) (by decide +kernel)
set_option maxRecDepth 20000 in
theorem gX3_shift_X3_isBodyNumber : GoodIn wsX3_shift (va_wsS RX3 92 yX3_isBodyNumber wsX3_isBodyNumber) := goodIn_app (goodIn_of _ (by decide +kernel)) ggX3_shift_X3_isBodyNumber
set_option maxRecDepth 20000 in
theorem ggX3_shift_X3_requireMovement : GoodIn wsX3_shift wsX3_requireMovement := goodIn_ca (goodIn_r _ [11, 12, 13, 14, 15, 7, 16] (by decide +kernel) (by decide +kernel)) (goodIn_sub (fun _ h => List.mem_cons_of_mem _ (List.mem_append_right _ h)) (by decide +kernel))
set_option maxRecDepth 20000 in
theorem gX3_shift_X3_requireMovement : GoodIn wsX3_shift (va_wsS RX3 76 yX3_requireMovement wsX3_requireMovement) := goodIn_app (goodIn_of _ (by decide +kernel)) ggX3_shift_X3_requireMovement
set_option maxRecDepth 20000 in
theorem ggX3_shift_X3_shiftBody : GoodIn wsX3_shift wsX3_shiftBody := goodIn_r _ [20, 21, 22, 23, 24, 25, 26, 27, 28, 29, 30, 31, 32, 33, 34, 35, 36, 37, 38, 39, 40, 15, 7, 16, 41, 42, 43, 44, 45, 46, 47, 48, 49, 50, 51, 52, 53, 54, 55, 56, 57, 58, 59, 60, 61, 62, 63, 64, 65, 66, 67, 68, 69, 70, 71, 72, 73, 74, 75, 76, 77, 78, 79, 80, 81] (by decide +kernel) (by decide +kernel)
set_option maxRecDepth 20000 in
theorem gX3_shift_X3_shiftBody : GoodIn wsX3_shift (wsV RX3 105 RX3 yX3_shiftBody wsX3_shiftBody) := goodIn_app (goodIn_of _ (by decide +kernel)) ggX3_shift_X3_shiftBody
set_option maxRecDepth 20000 in
theorem ggX3_filter_X3_requireThere : GoodIn wsX3_filter wsX3_requireThere := goodIn_ca (goodIn_r _ [6, 7, 8, 1, 9, 10, 11, 5, 12, 21, 22, 23, 24, 25, 26, 27, 28, 29, 30, 31, 32, 33, 34, 35, 36, 37, 38] (by decide +kernel) (by decide +kernel)) (goodIn_sub (fun _ h => List.mem_cons_of_mem _ (List.mem_append_right _ h)) (by decide +kernel))
set_option maxRecDepth 20000 in
theorem gX3_filter_X3_requireThere : GoodIn wsX3_filter (wsV RX3 85 RX3 yX3_requireThere wsX3_requireThere) := goodIn_app (goodIn_of _ (by decide +kernel)) ggX3_filter_X3_requireThere
set_option maxRecDepth 20000 in
theorem ggX3_filter_X0_setFilter : GoodIn wsX3_filter wsX0_setFilter := goodIn_r _ [17, 18, 19, 20, 33, 34, 35, 36, 37, 38] (by decide +kernel) (by decide +kernel)
set_option maxRecDepth 20000 in
theorem gX3_filter_X0_setFilter : GoodIn wsX3_filter (wsV RX3 109 RX0 yX0_setFilter wsX0_setFilter) := goodIn_app (goodIn_of _ (by decide +kernel)) ggX3_filter_X0_setFilter
set_option maxRecDepth 20000 in
theorem ggX3_remove_X3_requireThere : GoodIn wsX3_remove wsX3_requireThere := goodIn_ca (goodIn_r _ [8, 9, 10, 2, 11, 12, 13, 7, 14, 41, 42, 43, 44, 45, 46, 47, 48, 49, 50, 51, 52, 53, 54, 55, 56, 57, 58] (by decide +kernel) (by decide +kernel)) (goodIn_sub (fun _ h => List.mem_cons_of_mem _ (List.mem_append_right _ h)) (by decide +kernel))
set_option maxRecDepth 20000 in
theorem gX3_remove_X3_requireThere : GoodIn wsX3_remove (wsV RX3 85 RX3 yX3_requireThere wsX3_requireThere) := goodIn_app (goodIn_of _ (by decide +kernel)) ggX3_remove_X3_requireThere
set_option maxRecDepth 20000 in
theorem ggX3_remove_X3_arePair : GoodIn wsX3_remove wsX3_arePair := goodIn_r _ [18, 1, 19, 20, 7, 21, 22, 23, 24, 25, 26, 27, 41, 42, 43, 44, 45, 46, 47, 48, 49, 50, 51, 52, 59, 60] (by decide +kernel) (by decide +kernel)
set_option maxRecDepth 20000 in
theorem gX3_remove_X3_arePair : GoodIn wsX3_remove (wsV RX3 113 RX3 yX3_arePair wsX3_arePair) := goodIn_app (goodIn_of _ (by decide +kernel)) ggX3_remove_X3_arePair
set_option maxRecDepth 20000 in
theorem ggX3_remove_X3_pairCode : GoodIn wsX3_remove wsX3_pairCode := goodIn_r _ [21] (by decide +kernel) (by decide +kernel)
set_option maxRecDepth 20000 in
theorem gX3_remove_X3_pairCode : GoodIn wsX3_remove (va_wsS RX3 117 yX3_pairCode wsX3_pairCode) := goodIn_app (goodIn_of _ (by decide +kernel)) ggX3_remove_X3_pairCode
set_option maxRecDepth 20000 in
theorem ggX3_remove_X2_put : GoodIn wsX3_remove wsX2_put := goodIn_r _ [31, 27, 32, 33, 23, 24, 25, 26, 59, 60] (by decide +kernel) (by decide +kernel)
set_option maxRecDepth 20000 in
theorem gX3_remove_X2_put : GoodIn wsX3_remove (wsV RX3 121 RX2 yX2_put wsX2_put) := goodIn_app (goodIn_of _ (by decide +kernel)) ggX3_remove_X2_put
set_option maxRecDepth 20000 in
theorem ggX3_remove_X0_leave : GoodIn wsX3_remove wsX0_leave := goodIn_r _ [38, 39, 40, 53, 54, 55, 56, 57, 58] (by decide +kernel) (by decide +kernel)
set_option maxRecDepth 20000 in
theorem gX3_remove_X0_leave : GoodIn wsX3_remove (wsV RX3 125 RX0 yX0_leave wsX0_leave) := goodIn_app (goodIn_of _ (by decide +kernel)) ggX3_remove_X0_leave
set_option maxRecDepth 20000 in
theorem ggX3_update_X2_copyFrom : GoodIn wsX3_update wsX2_copyFrom := goodIn_r _ [15, 16, 17, 18, 19, 20, 21, 83, 84] (by decide +kernel) (by decide +kernel)
set_option maxRecDepth 20000 in
theorem gX3_update_X2_copyFrom : GoodIn wsX3_update (wsV RX3 132 RX2 yX2_copyFrom wsX2_copyFrom) := goodIn_app (goodIn_of _ (by decide +kernel)) ggX3_update_X2_copyFrom
set_option maxRecDepth 20000 in
theorem ggX3_update_X3_reviewPairsOf : GoodIn wsX3_update wsX3_reviewPairsOf := goodIn_r _ [26, 5, 6, 3, 27, 28, 25, 29, 30, 31, 32, 33, 34, 35, 36, 37, 38, 39, 40, 41, 42, 43, 44, 45, 46, 47, 14, 48, 16, 21, 49, 50, 51, 52, 65, 66, 67, 68, 69, 70, 71, 72, 73, 74, 75, 76, 77, 78, 79, 80, 81, 82, 85, 83, 84] (by decide +kernel) (by decide +kernel)
set_option maxRecDepth 20000 in
theorem gX3_update_X3_reviewPairsOf : GoodIn wsX3_update (wsV RX3 139 RX3 yX3_reviewPairsOf wsX3_reviewPairsOf) := goodIn_app (goodIn_of _ (by decide +kernel)) ggX3_update_X3_reviewPairsOf
set_option maxRecDepth 20000 in
theorem ggX3_update_X2_setToDifference : GoodIn wsX3_update wsX2_setToDifference := goodIn_r _ [56, 21, 16, 57, 58, 59, 60, 61, 62, 63, 64, 83, 84] (by decide +kernel) (by decide +kernel)
set_option maxRecDepth 20000 in
theorem gX3_update_X2_setToDifference : GoodIn wsX3_update (wsV RX3 150 RX2 yX2_setToDifference wsX2_setToDifference) := goodIn_app (goodIn_of _ (by decide +kernel)) ggX3_update_X2_setToDifference
set_option maxRecDepth 20000 in
theorem ggX3_pair_X2_codeAt : GoodIn wsX3_pair wsX2_codeAt := goodIn_r _ [11, 12, 13, 14, 15, 16, 17, 18, 19, 20, 21, 10, 22, 35, 36] (by decide +kernel) (by decide +kernel)
set_option maxRecDepth 20000 in
theorem gX3_pair_X2_codeAt : GoodIn wsX3_pair (wsV RX3 161 RX2 yX2_codeAt wsX2_codeAt) := goodIn_app (goodIn_of _ (by decide +kernel)) ggX3_pair_X2_codeAt
set_option maxRecDepth 20000 in
theorem ggX3_paired_X3_requireThere : GoodIn wsX3_paired wsX3_requireThere := goodIn_ca (goodIn_r _ [5, 6, 7, 8, 9, 10, 11, 4, 12, 27, 28, 29, 30, 31, 32, 33, 34, 35, 36, 37, 38, 39, 40, 41, 42, 43, 44] (by decide +kernel) (by decide +kernel)) (goodIn_sub (fun _ h => List.mem_cons_of_mem _ (List.mem_append_right _ h)) (by decide +kernel))
set_option maxRecDepth 20000 in
theorem gX3_paired_X3_requireThere : GoodIn wsX3_paired (wsV RX3 85 RX3 yX3_requireThere wsX3_requireThere) := goodIn_app (goodIn_of _ (by decide +kernel)) ggX3_paired_X3_requireThere
set_option maxRecDepth 20000 in
theorem ggX3_paired_X3_arePair : GoodIn wsX3_paired wsX3_arePair := goodIn_r _ [16, 17, 18, 19, 4, 20, 21, 22, 23, 24, 25, 26, 27, 28, 29, 30, 31, 32, 33, 34, 35, 36, 37, 38, 45, 46] (by decide +kernel) (by decide +kernel)
set_option maxRecDepth 20000 in
theorem gX3_paired_X3_arePair : GoodIn wsX3_paired (wsV RX3 113 RX3 yX3_arePair wsX3_arePair) := goodIn_app (goodIn_of _ (by decide +kernel)) ggX3_paired_X3_arePair
set_option maxRecDepth 20000 in
theorem ggX3_overlapping_X3_requirePadIsBox : GoodIn wsX3_overlapping wsX3_requirePadIsBox := goodIn_ca (goodIn_r _ [11, 12, 13, 6, 14, 15, 16, 17, 18, 19, 30, 31, 32, 33, 34, 35, 36, 37, 38, 39, 40, 41, 48] (by decide +kernel) (by decide +kernel)) (goodIn_sub (fun _ h => List.mem_cons_of_mem _ (List.mem_append_right _ h)) (by decide +kernel))
set_option maxRecDepth 20000 in
theorem gX3_overlapping_X3_requirePadIsBox : GoodIn wsX3_overlapping (wsV RX3 58 RX3 yX3_requirePadIsBox wsX3_requirePadIsBox) := goodIn_app (goodIn_of _ (by decide +kernel)) ggX3_overlapping_X3_requirePadIsBox
set_option maxRecDepth 20000 in
theorem ggX3_overlapping_X1_overlaps : GoodIn wsX3_overlapping wsX1_overlaps := goodIn_r _ [23, 19, 48] (by decide +kernel) (by decide +kernel)
set_option maxRecDepth 20000 in
theorem gX3_overlapping_X1_overlaps : GoodIn wsX3_overlapping (wsV RX3 174 RX1 yX1_overlaps wsX1_overlaps) := goodIn_app (goodIn_of _ (by decide +kernel)) ggX3_overlapping_X1_overlaps
set_option maxRecDepth 20000 in
theorem ggX3_overlapping_X3_appendFound : GoodIn wsX3_overlapping wsX3_appendFound := goodIn_r _ [27, 1, 28, 29, 30, 31, 32, 33, 34, 35, 36, 37, 38, 39, 40, 41] (by decide +kernel) (by decide +kernel)
set_option maxRecDepth 20000 in
theorem gX3_overlapping_X3_appendFound : GoodIn wsX3_overlapping (wsV RX3 178 RX3 yX3_appendFound wsX3_appendFound) := goodIn_app (goodIn_of _ (by decide +kernel)) ggX3_overlapping_X3_appendFound
set_option maxRecDepth 20000 in
theorem ggX3_meeting_X1_enterOfLine : GoodIn wsX3_meeting wsX1_enterOfLine := goodIn_r _ [12, 13, 14, 40] (by decide +kernel) (by decide +kernel)
set_option maxRecDepth 20000 in
theorem gX3_meeting_X1_enterOfLine : GoodIn wsX3_meeting (wsV RX3 182 RX1 yX1_enterOfLine wsX1_enterOfLine) := goodIn_app (goodIn_of _ (by decide +kernel)) ggX3_meeting_X1_enterOfLine
set_option maxRecDepth 20000 in
theorem ggX3_meeting_X3_appendFound : GoodIn wsX3_meeting wsX3_appendFound := goodIn_r _ [19, 1, 20, 21, 22, 23, 24, 25, 26, 27, 28, 29, 30, 31, 32, 33] (by decide +kernel) (by decide +kernel)
set_option maxRecDepth 20000 in
theorem gX3_meeting_X3_appendFound : GoodIn wsX3_meeting (wsV RX3 178 RX3 yX3_appendFound wsX3_appendFound) := goodIn_app (goodIn_of _ (by decide +kernel)) ggX3_meeting_X3_appendFound
set_option maxRecDepth 20000 in
theorem ggX3_found_X3_requireFound : GoodIn wsX3_found wsX3_requireFound := goodIn_ca (goodIn_r _ [6, 7, 8, 9, 10, 11, 12, 13, 14, 15, 16, 17, 18, 19, 20, 21] (by decide +kernel) (by decide +kernel)) (goodIn_sub (fun _ h => List.mem_cons_of_mem _ (List.mem_append_right _ h)) (by decide +kernel))
set_option maxRecDepth 20000 in
theorem gX3_found_X3_requireFound : GoodIn wsX3_found (wsV RX3 187 RX3 yX3_requireFound wsX3_requireFound) := goodIn_app (goodIn_of _ (by decide +kernel)) ggX3_found_X3_requireFound
set_option maxRecDepth 20000 in
theorem ggX3_where_X3_requireFound : GoodIn wsX3_where wsX3_requireFound := goodIn_ca (goodIn_r _ [6, 7, 8, 9, 10, 11, 12, 13, 14, 15, 16, 17, 18, 19, 20, 21] (by decide +kernel) (by decide +kernel)) (goodIn_sub (fun _ h => List.mem_cons_of_mem _ (List.mem_append_right _ h)) (by decide +kernel))
set_option maxRecDepth 20000 in
theorem gX3_where_X3_requireFound : GoodIn wsX3_where (wsV RX3 187 RX3 yX3_requireFound wsX3_requireFound) := goodIn_app (goodIn_of _ (by decide +kernel)) ggX3_where_X3_requireFound
set_option maxRecDepth 20000 in
theorem ggX3_corner_X3_requireThere : GoodIn wsX3_corner wsX3_requireThere := goodIn_ca (goodIn_r _ [11, 1, 2, 3, 12, 13, 14, 10, 15, 16, 17, 18, 19, 20, 21, 22, 23, 24, 25, 26, 27, 28, 29, 30, 31, 32, 33] (by decide +kernel) (by decide +kernel)) (goodIn_sub (fun _ h => List.mem_cons_of_mem _ (List.mem_append_right _ h)) (by decide +kernel))
set_option maxRecDepth 20000 in
theorem gX3_corner_X3_requireThere : GoodIn wsX3_corner (wsV RX3 85 RX3 yX3_requireThere wsX3_requireThere) := goodIn_app (goodIn_of _ (by decide +kernel)) ggX3_corner_X3_requireThere
set_option maxRecDepth 20000 in
theorem ggX3_about_X3_requireThere : GoodIn wsX3_about wsX3_requireThere := goodIn_ca (goodIn_r _ [11, 1, 2, 3, 12, 13, 14, 10, 15, 34, 35, 36, 37, 38, 39, 40, 41, 42, 43, 44, 45, 46, 47, 48, 49, 50, 51] (by decide +kernel) (by decide +kernel)) (goodIn_sub (fun _ h => List.mem_cons_of_mem _ (List.mem_append_right _ h)) (by decide +kernel))
set_option maxRecDepth 20000 in
theorem gX3_about_X3_requireThere : GoodIn wsX3_about (wsV RX3 85 RX3 yX3_requireThere wsX3_requireThere) := goodIn_app (goodIn_of _ (by decide +kernel)) ggX3_about_X3_requireThere
set_option maxRecDepth 20000 in
theorem ggX3_about_X3_pairsOf : GoodIn wsX3_about wsX3_pairsOf := goodIn_r _ [19, 20, 21, 22, 10, 23, 24, 25, 26, 27, 28, 29, 30, 31, 32, 33, 34, 35, 36, 37, 38, 39, 40, 41, 42, 43, 44, 45, 52, 53] (by decide +kernel) (by decide +kernel)
set_option maxRecDepth 20000 in
theorem gX3_about_X3_pairsOf : GoodIn wsX3_about (wsV RX3 201 RX3 yX3_pairsOf wsX3_pairsOf) := goodIn_app (goodIn_of _ (by decide +kernel)) ggX3_about_X3_pairsOf
set_option maxRecDepth 20000 in
theorem ggX3_count_X3_touchedBodies : GoodIn wsX3_count wsX3_touchedBodies := goodIn_r _ [14, 15, 16, 17, 18, 19, 20, 21, 22, 23, 24, 25, 26, 27, 28, 31, 32, 33, 34, 35, 36] (by decide +kernel) (by decide +kernel)
set_option maxRecDepth 20000 in
theorem gX3_count_X3_touchedBodies : GoodIn wsX3_count (wsV RX3 206 RX3 yX3_touchedBodies wsX3_touchedBodies) := goodIn_app (goodIn_of _ (by decide +kernel)) ggX3_count_X3_touchedBodies
set_option maxRecDepth 20000 in
theorem ggX3_requireGood_X3_isWithin : GoodIn wsX3_requireGood wsX3_isWithin := goodIn_r _ [6] (by decide +kernel) (by decide +kernel)
set_option maxRecDepth 20000 in
theorem gX3_requireGood_X3_isWithin : GoodIn wsX3_requireGood (va_wsS RX3 212 yX3_isWithin wsX3_isWithin) := goodIn_app (goodIn_of _ (by decide +kernel)) ggX3_requireGood_X3_isWithin
set_option maxRecDepth 20000 in
theorem ggX3_requireMovement_X3_isWithin : GoodIn wsX3_requireMovement wsX3_isWithin := goodIn_r _ [6] (by decide +kernel) (by decide +kernel)
set_option maxRecDepth 20000 in
theorem gX3_requireMovement_X3_isWithin : GoodIn wsX3_requireMovement (va_wsS RX3 212 yX3_isWithin wsX3_isWithin) := goodIn_app (goodIn_of _ (by decide +kernel)) ggX3_requireMovement_X3_isWithin
set_option maxRecDepth 20000 in
theorem ggX3_requirePadIsBox_X1_isBox : GoodIn wsX3_requirePadIsBox wsX1_isBox := goodIn_r _ [8, 9, 22] (by decide +kernel) (by decide +kernel)
set_option maxRecDepth 20000 in
theorem gX3_requirePadIsBox_X1_isBox : GoodIn wsX3_requirePadIsBox (wsV RX3 220 RX1 yX1_isBox wsX1_isBox) := goodIn_app (goodIn_of _ (by decide +kernel)) ggX3_requirePadIsBox_X1_isBox
set_option maxRecDepth 20000 in
theorem ggX3_requireThere_X3_isBodyNumber : GoodIn wsX3_requireThere wsX3_isBodyNumber := goodIn_r _ [8] (by decide +kernel) (by decide +kernel)
set_option maxRecDepth 20000 in
theorem gX3_requireThere_X3_isBodyNumber : GoodIn wsX3_requireThere (va_wsS RX3 92 yX3_isBodyNumber wsX3_isBodyNumber) := goodIn_app (goodIn_of _ (by decide +kernel)) ggX3_requireThere_X3_isBodyNumber
set_option maxRecDepth 20000 in
theorem ggX3_rowStaysGood_X1_copyFrom : GoodIn wsX3_rowStaysGood wsX1_copyFrom := goodIn_r _ [7, 8, 9, 10, 11, 12, 36] (by decide +kernel) (by decide +kernel)
set_option maxRecDepth 20000 in
theorem gX3_rowStaysGood_X1_copyFrom : GoodIn wsX3_rowStaysGood (wsV RX3 232 RX1 yX1_copyFrom wsX1_copyFrom) := goodIn_app (goodIn_of _ (by decide +kernel)) ggX3_rowStaysGood_X1_copyFrom
set_option maxRecDepth 20000 in
theorem ggX3_rowStaysGood_X1_moveBy : GoodIn wsX3_rowStaysGood wsX1_moveBy := goodIn_r _ [16, 8, 36] (by decide +kernel) (by decide +kernel)
set_option maxRecDepth 20000 in
theorem gX3_rowStaysGood_X1_moveBy : GoodIn wsX3_rowStaysGood (wsV RX3 235 RX1 yX1_moveBy wsX1_moveBy) := goodIn_app (goodIn_of _ (by decide +kernel)) ggX3_rowStaysGood_X1_moveBy
set_option maxRecDepth 20000 in
theorem ggX3_rowStaysGood_X1_isGood : GoodIn wsX3_rowStaysGood wsX1_isGood := goodIn_r _ [20, 8, 21, 22, 23, 36] (by decide +kernel) (by decide +kernel)
set_option maxRecDepth 20000 in
theorem gX3_rowStaysGood_X1_isGood : GoodIn wsX3_rowStaysGood (wsV RX3 238 RX1 yX1_isGood wsX1_isGood) := goodIn_app (goodIn_of _ (by decide +kernel)) ggX3_rowStaysGood_X1_isGood
set_option maxRecDepth 20000 in
theorem ggX3_addBodies_X1_copyFrom : GoodIn wsX3_addBodies wsX1_copyFrom := goodIn_r _ [10, 11, 12, 13, 14, 15, 63] (by decide +kernel) (by decide +kernel)
set_option maxRecDepth 20000 in
theorem gX3_addBodies_X1_copyFrom : GoodIn wsX3_addBodies (wsV RX3 232 RX1 yX1_copyFrom wsX1_copyFrom) := goodIn_app (goodIn_of _ (by decide +kernel)) ggX3_addBodies_X1_copyFrom
set_option maxRecDepth 20000 in
theorem ggX3_addBodies_X1_moveBy : GoodIn wsX3_addBodies wsX1_moveBy := goodIn_r _ [19, 11, 63] (by decide +kernel) (by decide +kernel)
set_option maxRecDepth 20000 in
theorem gX3_addBodies_X1_moveBy : GoodIn wsX3_addBodies (wsV RX3 235 RX1 yX1_moveBy wsX1_moveBy) := goodIn_app (goodIn_of _ (by decide +kernel)) ggX3_addBodies_X1_moveBy
set_option maxRecDepth 20000 in
theorem ggX3_addBodies_X0_appear : GoodIn wsX3_addBodies wsX0_appear := goodIn_r _ [24, 25, 26, 27, 28, 7, 8, 9, 10, 11, 12, 13, 14, 15, 29, 30, 31, 32, 33, 34, 35, 36, 37, 38, 39, 40, 23, 41, 42, 43, 44, 57, 58, 59, 60, 61, 62, 63] (by decide +kernel) (by decide +kernel)
set_option maxRecDepth 20000 in
theorem gX3_addBodies_X0_appear : GoodIn wsX3_addBodies (wsV RX3 241 RX0 yX0_appear wsX0_appear) := goodIn_app (goodIn_of _ (by decide +kernel)) ggX3_addBodies_X0_appear
set_option maxRecDepth 20000 in
theorem ggX3_shiftBody_X1_copyFrom : GoodIn wsX3_shiftBody wsX1_copyFrom := goodIn_r _ [7, 8, 9, 10, 11, 12, 64] (by decide +kernel) (by decide +kernel)
set_option maxRecDepth 20000 in
theorem gX3_shiftBody_X1_copyFrom : GoodIn wsX3_shiftBody (wsV RX3 232 RX1 yX1_copyFrom wsX1_copyFrom) := goodIn_app (goodIn_of _ (by decide +kernel)) ggX3_shiftBody_X1_copyFrom
set_option maxRecDepth 20000 in
theorem ggX3_shiftBody_X1_moveBy : GoodIn wsX3_shiftBody wsX1_moveBy := goodIn_r _ [16, 8, 64] (by decide +kernel) (by decide +kernel)
set_option maxRecDepth 20000 in
theorem gX3_shiftBody_X1_moveBy : GoodIn wsX3_shiftBody (wsV RX3 235 RX1 yX1_moveBy wsX1_moveBy) := goodIn_app (goodIn_of _ (by decide +kernel)) ggX3_shiftBody_X1_moveBy
set_option maxRecDepth 20000 in
theorem ggX3_shiftBody_X1_isGood : GoodIn wsX3_shiftBody wsX1_isGood := goodIn_r _ [20, 8, 21, 22, 23, 64] (by decide +kernel) (by decide +kernel)
set_option maxRecDepth 20000 in
theorem gX3_shiftBody_X1_isGood : GoodIn wsX3_shiftBody (wsV RX3 238 RX1 yX1_isGood wsX1_isGood) := goodIn_app (goodIn_of _ (by decide +kernel)) ggX3_shiftBody_X1_isGood
set_option maxRecDepth 20000 in
theorem ggX3_shiftBody_X0_moveTo : GoodIn wsX3_shiftBody wsX0_moveTo := goodIn_r _ [28, 29, 30, 31, 32, 4, 5, 6, 7, 8, 9, 10, 11, 12, 33, 34, 35, 36, 37, 38, 39, 40, 41, 42, 43, 44, 45, 58, 59, 60, 61, 62, 63, 64] (by decide +kernel) (by decide +kernel)
set_option maxRecDepth 20000 in
theorem gX3_shiftBody_X0_moveTo : GoodIn wsX3_shiftBody (wsV RX3 88 RX0 yX0_moveTo wsX0_moveTo) := goodIn_app (goodIn_of _ (by decide +kernel)) ggX3_shiftBody_X0_moveTo
set_option maxRecDepth 20000 in
theorem ggX3_reviewPairsOf_X3_pairCode : GoodIn wsX3_reviewPairsOf wsX3_pairCode := goodIn_r _ [7] (by decide +kernel) (by decide +kernel)
set_option maxRecDepth 20000 in
theorem gX3_reviewPairsOf_X3_pairCode : GoodIn wsX3_reviewPairsOf (va_wsS RX3 117 yX3_pairCode wsX3_pairCode) := goodIn_app (goodIn_of _ (by decide +kernel)) ggX3_reviewPairsOf_X3_pairCode
set_option maxRecDepth 20000 in
theorem ggX3_reviewPairsOf_X0_pairsWith : GoodIn wsX3_reviewPairsOf wsX0_pairsWith := goodIn_r _ [12, 13, 14, 15, 16, 17, 18, 19, 20, 21, 22, 46, 47, 48, 49, 50, 51, 52] (by decide +kernel) (by decide +kernel)
set_option maxRecDepth 20000 in
theorem gX3_reviewPairsOf_X0_pairsWith : GoodIn wsX3_reviewPairsOf (wsV RX3 245 RX0 yX0_pairsWith wsX0_pairsWith) := goodIn_app (goodIn_of _ (by decide +kernel)) ggX3_reviewPairsOf_X0_pairsWith
set_option maxRecDepth 20000 in
theorem ggX3_reviewPairsOf_X2_put : GoodIn wsX3_reviewPairsOf wsX2_put := goodIn_r _ [27, 28, 29, 30, 31, 32, 26, 33, 53, 54] (by decide +kernel) (by decide +kernel)
set_option maxRecDepth 20000 in
theorem gX3_reviewPairsOf_X2_put : GoodIn wsX3_reviewPairsOf (wsV RX3 121 RX2 yX2_put wsX2_put) := goodIn_app (goodIn_of _ (by decide +kernel)) ggX3_reviewPairsOf_X2_put
set_option maxRecDepth 20000 in
theorem ggX3_arePair_X3_pairCode : GoodIn wsX3_arePair wsX3_pairCode := goodIn_r _ [5] (by decide +kernel) (by decide +kernel)
set_option maxRecDepth 20000 in
theorem gX3_arePair_X3_pairCode : GoodIn wsX3_arePair (va_wsS RX3 117 yX3_pairCode wsX3_pairCode) := goodIn_app (goodIn_of _ (by decide +kernel)) ggX3_arePair_X3_pairCode
set_option maxRecDepth 20000 in
theorem ggX3_arePair_X2_holds : GoodIn wsX3_arePair wsX2_holds := goodIn_r _ [10, 11, 24, 25] (by decide +kernel) (by decide +kernel)
set_option maxRecDepth 20000 in
theorem gX3_arePair_X2_holds : GoodIn wsX3_arePair (wsV RX3 249 RX2 yX2_holds wsX2_holds) := goodIn_app (goodIn_of _ (by decide +kernel)) ggX3_arePair_X2_holds
set_option maxRecDepth 20000 in
theorem ggX3_pairsOf_X3_arePair : GoodIn wsX3_pairsOf wsX3_arePair := goodIn_r _ [5, 6, 7, 8, 4, 9, 10, 11, 12, 13, 14, 15, 16, 17, 18, 19, 20, 21, 22, 23, 24, 25, 26, 27, 28, 29] (by decide +kernel) (by decide +kernel)
set_option maxRecDepth 20000 in
theorem gX3_pairsOf_X3_arePair : GoodIn wsX3_pairsOf (wsV RX3 113 RX3 yX3_arePair wsX3_arePair) := goodIn_app (goodIn_of _ (by decide +kernel)) ggX3_pairsOf_X3_arePair
set_option maxRecDepth 20000 in
theorem ggX4_padCorner_X4_good : GoodIn wsX4_padCorner wsX4_good := goodIn_r _ [5, 6, 7] (by decide +kernel) (by decide +kernel)
set_option maxRecDepth 20000 in
theorem gX4_padCorner_X4_good : GoodIn wsX4_padCorner (va_wsS RX4 62 yX4_good wsX4_good) := goodIn_app (goodIn_of _ (by decide +kernel)) ggX4_padCorner_X4_good
set_option maxRecDepth 20000 in
theorem ggX4_padCorner_X4_goes : GoodIn wsX4_padCorner wsX4_goes := goodIn_r _ [11, 12, 13, 14, 15, 16, 17, 18, 19, 20, 21, 22, 23, 24, 25, 26, 27, 28, 29] (by decide +kernel) (by decide +kernel)
set_option maxRecDepth 20000 in
theorem gX4_padCorner_X4_goes : GoodIn wsX4_padCorner (wsV RX4 66 RX4 yX4_goes wsX4_goes) := goodIn_app (goodIn_of _ (by decide +kernel)) ggX4_padCorner_X4_goes
set_option maxRecDepth 20000 in
theorem ggX4_low_X4_padCorner : GoodIn wsX4_low wsX4_padCorner := goodIn_r _ [5, 6, 7, 8, 4, 9, 10, 11, 12, 13, 14, 15, 16, 17, 18, 19, 20, 21, 22, 23, 24, 25, 26, 27, 28, 29, 30, 31, 32, 33] (by decide +kernel) (by decide +kernel)
set_option maxRecDepth 20000 in
theorem gX4_low_X4_padCorner : GoodIn wsX4_low (wsV RX4 70 RX4 yX4_padCorner wsX4_padCorner) := goodIn_app (goodIn_of _ (by decide +kernel)) ggX4_low_X4_padCorner
set_option maxRecDepth 20000 in
theorem ggX4_high_X4_padCorner : GoodIn wsX4_high wsX4_padCorner := goodIn_r _ [5, 6, 7, 8, 4, 9, 10, 11, 12, 13, 14, 15, 16, 17, 18, 19, 20, 21, 22, 23, 24, 25, 26, 27, 28, 29, 30, 31, 32, 33] (by decide +kernel) (by decide +kernel)
set_option maxRecDepth 20000 in
theorem gX4_high_X4_padCorner : GoodIn wsX4_high (wsV RX4 70 RX4 yX4_padCorner wsX4_padCorner) := goodIn_app (goodIn_of _ (by decide +kernel)) ggX4_high_X4_padCorner
set_option maxRecDepth 20000 in
theorem ggX4_settle_X4_widen : GoodIn wsX4_settle wsX4_widen := goodIn_r _ [8, 2, 9, 10, 11, 12, 13, 14, 15, 16, 17, 18, 19, 20, 21, 22, 23, 24, 25, 26, 27] (by decide +kernel) (by decide +kernel)
set_option maxRecDepth 20000 in
theorem gX4_settle_X4_widen : GoodIn wsX4_settle (wsV RX4 74 RX4 yX4_widen wsX4_widen) := goodIn_app (goodIn_of _ (by decide +kernel)) ggX4_settle_X4_widen
set_option maxRecDepth 20000 in
theorem ggX4_put_X4_least : GoodIn wsX4_put wsX4_least := goodIn_r _ [8, 1, 22, 23, 24, 25, 26, 27, 28, 29, 30, 31, 32, 33, 34, 35, 36, 37, 38] (by decide +kernel) (by decide +kernel)
set_option maxRecDepth 20000 in
theorem gX4_put_X4_least : GoodIn wsX4_put (wsV RX4 79 RX4 yX4_least wsX4_least) := goodIn_app (goodIn_of _ (by decide +kernel)) ggX4_put_X4_least
set_option maxRecDepth 20000 in
theorem ggX4_put_X4_settle : GoodIn wsX4_put wsX4_settle := goodIn_r _ [12, 13, 14, 15, 16, 17, 18, 7, 19, 20, 21, 22, 23, 24, 25, 26, 27, 28, 29, 30, 31, 32, 33, 34, 35, 36, 37, 38] (by decide +kernel) (by decide +kernel)
set_option maxRecDepth 20000 in
theorem gX4_put_X4_settle : GoodIn wsX4_put (wsV RX4 83 RX4 yX4_settle wsX4_settle) := goodIn_app (goodIn_of _ (by decide +kernel)) ggX4_put_X4_settle
set_option maxRecDepth 20000 in
theorem ggX4_goesOn_X4_good : GoodIn wsX4_goesOn wsX4_good := goodIn_r _ [5, 6, 7] (by decide +kernel) (by decide +kernel)
set_option maxRecDepth 20000 in
theorem gX4_goesOn_X4_good : GoodIn wsX4_goesOn (va_wsS RX4 62 yX4_good wsX4_good) := goodIn_app (goodIn_of _ (by decide +kernel)) ggX4_goesOn_X4_good
set_option maxRecDepth 20000 in
theorem ggX4_add_X4_padIsBox : GoodIn wsX4_add wsX4_padIsBox := goodIn_r _ [5, 6, 44, 45, 46, 47, 48, 49, 50, 51, 52, 53, 54, 55, 56, 57, 58, 59, 60] (by decide +kernel) (by decide +kernel)
set_option maxRecDepth 20000 in
theorem gX4_add_X4_padIsBox : GoodIn wsX4_add (wsV RX4 86 RX4 yX4_padIsBox wsX4_padIsBox) := goodIn_app (goodIn_of _ (by decide +kernel)) ggX4_add_X4_padIsBox
set_option maxRecDepth 20000 in
theorem ggX4_add_X4_bodies : GoodIn wsX4_add wsX4_bodies := goodIn_r _ [10, 11, 44, 45, 46, 47, 48, 49, 50, 51, 52, 53, 54, 55, 56, 57, 58, 59, 60] (by decide +kernel) (by decide +kernel)
set_option maxRecDepth 20000 in
theorem gX4_add_X4_bodies : GoodIn wsX4_add (wsV RX4 90 RX4 yX4_bodies wsX4_bodies) := goodIn_app (goodIn_of _ (by decide +kernel)) ggX4_add_X4_bodies
set_option maxRecDepth 20000 in
theorem ggX4_add_X4_goes : GoodIn wsX4_add wsX4_goes := goodIn_r _ [15, 16, 44, 45, 46, 47, 48, 49, 50, 51, 52, 53, 54, 55, 56, 57, 58, 59, 60] (by decide +kernel) (by decide +kernel)
set_option maxRecDepth 20000 in
theorem gX4_add_X4_goes : GoodIn wsX4_add (wsV RX4 66 RX4 yX4_goes wsX4_goes) := goodIn_app (goodIn_of _ (by decide +kernel)) ggX4_add_X4_goes
set_option maxRecDepth 20000 in
theorem ggX4_add_X4_takePad : GoodIn wsX4_add wsX4_takePad := goodIn_r _ [20, 21, 6, 44, 45, 46, 47, 48, 49, 50, 51, 52, 53, 54, 55, 56, 57, 58, 59, 60] (by decide +kernel) (by decide +kernel)
set_option maxRecDepth 20000 in
theorem gX4_add_X4_takePad : GoodIn wsX4_add (wsV RX4 93 RX4 yX4_takePad wsX4_takePad) := goodIn_app (goodIn_of _ (by decide +kernel)) ggX4_add_X4_takePad
set_option maxRecDepth 20000 in
theorem ggX4_add_X4_put : GoodIn wsX4_add wsX4_put := goodIn_r _ [25, 11, 26, 27, 28, 29, 30, 4, 31, 32, 33, 34, 35, 36, 21, 37, 38, 39, 40, 41, 42, 43, 44, 45, 46, 47, 48, 49, 50, 51, 52, 53, 54, 55, 56, 57, 58, 59, 60] (by decide +kernel) (by decide +kernel)
set_option maxRecDepth 20000 in
theorem gX4_add_X4_put : GoodIn wsX4_add (wsV RX4 96 RX4 yX4_put wsX4_put) := goodIn_app (goodIn_of _ (by decide +kernel)) ggX4_add_X4_put
set_option maxRecDepth 20000 in
theorem ggX4_addRow_X4_padIsBox : GoodIn wsX4_addRow wsX4_padIsBox := goodIn_r _ [5, 6, 58, 59, 60, 61, 62, 63, 64, 65, 66, 67, 68, 69, 70, 71, 72, 73, 74] (by decide +kernel) (by decide +kernel)
set_option maxRecDepth 20000 in
theorem gX4_addRow_X4_padIsBox : GoodIn wsX4_addRow (wsV RX4 86 RX4 yX4_padIsBox wsX4_padIsBox) := goodIn_app (goodIn_of _ (by decide +kernel)) ggX4_addRow_X4_padIsBox
set_option maxRecDepth 20000 in
theorem ggX4_addRow_X4_slow : GoodIn wsX4_addRow wsX4_slow := goodIn_r _ [9, 10, 11] (by decide +kernel) (by decide +kernel)
set_option maxRecDepth 20000 in
theorem gX4_addRow_X4_slow : GoodIn wsX4_addRow (va_wsS RX4 100 yX4_slow wsX4_slow) := goodIn_app (goodIn_of _ (by decide +kernel)) ggX4_addRow_X4_slow
set_option maxRecDepth 20000 in
theorem ggX4_addRow_X4_takePad : GoodIn wsX4_addRow wsX4_takePad := goodIn_r _ [15, 16, 6, 58, 59, 60, 61, 62, 63, 64, 65, 66, 67, 68, 69, 70, 71, 72, 73, 74] (by decide +kernel) (by decide +kernel)
set_option maxRecDepth 20000 in
theorem gX4_addRow_X4_takePad : GoodIn wsX4_addRow (wsV RX4 93 RX4 yX4_takePad wsX4_takePad) := goodIn_app (goodIn_of _ (by decide +kernel)) ggX4_addRow_X4_takePad
set_option maxRecDepth 20000 in
theorem ggX4_addRow_X4_goesOn : GoodIn wsX4_addRow wsX4_goesOn := goodIn_r _ [20, 16, 21, 22, 4, 23, 24, 25, 58, 59, 60, 61, 62, 63, 64, 65, 66, 67, 68, 69, 70, 71, 72, 73, 74] (by decide +kernel) (by decide +kernel)
set_option maxRecDepth 20000 in
theorem gX4_addRow_X4_goesOn : GoodIn wsX4_addRow (wsV RX4 104 RX4 yX4_goesOn wsX4_goesOn) := goodIn_app (goodIn_of _ (by decide +kernel)) ggX4_addRow_X4_goesOn
set_option maxRecDepth 20000 in
theorem ggX4_addRow_X4_bodies : GoodIn wsX4_addRow wsX4_bodies := goodIn_r _ [29, 30, 58, 59, 60, 61, 62, 63, 64, 65, 66, 67, 68, 69, 70, 71, 72, 73, 74] (by decide +kernel) (by decide +kernel)
set_option maxRecDepth 20000 in
theorem gX4_addRow_X4_bodies : GoodIn wsX4_addRow (wsV RX4 90 RX4 yX4_bodies wsX4_bodies) := goodIn_app (goodIn_of _ (by decide +kernel)) ggX4_addRow_X4_bodies
set_option maxRecDepth 20000 in
theorem ggX4_addRow_X4_goes : GoodIn wsX4_addRow wsX4_goes := goodIn_r _ [34, 35, 58, 59, 60, 61, 62, 63, 64, 65, 66, 67, 68, 69, 70, 71, 72, 73, 74] (by decide +kernel) (by decide +kernel)
set_option maxRecDepth 20000 in
theorem gX4_addRow_X4_goes : GoodIn wsX4_addRow (wsV RX4 66 RX4 yX4_goes wsX4_goes) := goodIn_app (goodIn_of _ (by decide +kernel)) ggX4_addRow_X4_goes
set_option maxRecDepth 20000 in
theorem ggX4_addRow_X4_put : GoodIn wsX4_addRow wsX4_put := goodIn_r _ [39, 30, 40, 41, 42, 43, 44, 4, 45, 46, 47, 48, 49, 50, 16, 51, 52, 53, 54, 55, 56, 57, 58, 59, 60, 61, 62, 63, 64, 65, 66, 67, 68, 69, 70, 71, 72, 73, 74] (by decide +kernel) (by decide +kernel)
set_option maxRecDepth 20000 in
theorem gX4_addRow_X4_put : GoodIn wsX4_addRow (wsV RX4 96 RX4 yX4_put wsX4_put) := goodIn_app (goodIn_of _ (by decide +kernel)) ggX4_addRow_X4_put
set_option maxRecDepth 20000 in
theorem ggX4_moves_X4_settle : GoodIn wsX4_moves wsX4_settle := goodIn_r _ [8, 3, 1, 9, 10, 11, 12, 7, 13, 14, 2, 15, 16, 17, 18, 19, 20, 21, 22, 23, 24, 25, 26, 27, 28, 29, 30, 31] (by decide +kernel) (by decide +kernel)
set_option maxRecDepth 20000 in
theorem gX4_moves_X4_settle : GoodIn wsX4_moves (wsV RX4 83 RX4 yX4_settle wsX4_settle) := goodIn_app (goodIn_of _ (by decide +kernel)) ggX4_moves_X4_settle
set_option maxRecDepth 20000 in
theorem ggX4_move_X4_known : GoodIn wsX4_move wsX4_known := goodIn_r _ [5, 6, 43, 44, 45, 46, 47, 48, 49, 50, 51, 52, 53, 54, 55, 56, 57, 58, 59] (by decide +kernel) (by decide +kernel)
set_option maxRecDepth 20000 in
theorem gX4_move_X4_known : GoodIn wsX4_move (wsV RX4 107 RX4 yX4_known wsX4_known) := goodIn_app (goodIn_of _ (by decide +kernel)) ggX4_move_X4_known
set_option maxRecDepth 20000 in
theorem ggX4_move_X4_padIsBox : GoodIn wsX4_move wsX4_padIsBox := goodIn_r _ [10, 11, 43, 44, 45, 46, 47, 48, 49, 50, 51, 52, 53, 54, 55, 56, 57, 58, 59] (by decide +kernel) (by decide +kernel)
set_option maxRecDepth 20000 in
theorem gX4_move_X4_padIsBox : GoodIn wsX4_move (wsV RX4 86 RX4 yX4_padIsBox wsX4_padIsBox) := goodIn_app (goodIn_of _ (by decide +kernel)) ggX4_move_X4_padIsBox
set_option maxRecDepth 20000 in
theorem ggX4_move_X4_slow : GoodIn wsX4_move wsX4_slow := goodIn_r _ [14, 15, 16] (by decide +kernel) (by decide +kernel)
set_option maxRecDepth 20000 in
theorem gX4_move_X4_slow : GoodIn wsX4_move (va_wsS RX4 100 yX4_slow wsX4_slow) := goodIn_app (goodIn_of _ (by decide +kernel)) ggX4_move_X4_slow
set_option maxRecDepth 20000 in
theorem ggX4_move_X4_goes : GoodIn wsX4_move wsX4_goes := goodIn_r _ [20, 21, 43, 44, 45, 46, 47, 48, 49, 50, 51, 52, 53, 54, 55, 56, 57, 58, 59] (by decide +kernel) (by decide +kernel)
set_option maxRecDepth 20000 in
theorem gX4_move_X4_goes : GoodIn wsX4_move (wsV RX4 66 RX4 yX4_goes wsX4_goes) := goodIn_app (goodIn_of _ (by decide +kernel)) ggX4_move_X4_goes
set_option maxRecDepth 20000 in
theorem ggX4_move_X4_takePad : GoodIn wsX4_move wsX4_takePad := goodIn_r _ [25, 26, 11, 43, 44, 45, 46, 47, 48, 49, 50, 51, 52, 53, 54, 55, 56, 57, 58, 59] (by decide +kernel) (by decide +kernel)
set_option maxRecDepth 20000 in
theorem gX4_move_X4_takePad : GoodIn wsX4_move (wsV RX4 93 RX4 yX4_takePad wsX4_takePad) := goodIn_app (goodIn_of _ (by decide +kernel)) ggX4_move_X4_takePad
set_option maxRecDepth 20000 in
theorem ggX4_move_X4_moves : GoodIn wsX4_move wsX4_moves := goodIn_r _ [30, 26, 31, 32, 33, 34, 35, 4, 36, 37, 38, 39, 40, 41, 42, 43, 44, 45, 46, 47, 48, 49, 50, 51, 52, 53, 54, 55, 56, 57, 58, 59] (by decide +kernel) (by decide +kernel)
set_option maxRecDepth 20000 in
theorem gX4_move_X4_moves : GoodIn wsX4_move (wsV RX4 111 RX4 yX4_moves wsX4_moves) := goodIn_app (goodIn_of _ (by decide +kernel)) ggX4_move_X4_moves
set_option maxRecDepth 20000 in
theorem ggX4_shift_X4_slow : GoodIn wsX4_shift wsX4_slow := goodIn_r _ [7, 8, 9] (by decide +kernel) (by decide +kernel)
set_option maxRecDepth 20000 in
theorem gX4_shift_X4_slow : GoodIn wsX4_shift (va_wsS RX4 100 yX4_slow wsX4_slow) := goodIn_app (goodIn_of _ (by decide +kernel)) ggX4_shift_X4_slow
set_option maxRecDepth 20000 in
theorem ggX4_shift_X4_goes : GoodIn wsX4_shift wsX4_goes := goodIn_r _ [13, 14, 39, 40, 41, 42, 43, 44, 45, 46, 47, 48, 49, 50, 51, 52, 53, 54, 55] (by decide +kernel) (by decide +kernel)
set_option maxRecDepth 20000 in
theorem gX4_shift_X4_goes : GoodIn wsX4_shift (wsV RX4 66 RX4 yX4_goes wsX4_goes) := goodIn_app (goodIn_of _ (by decide +kernel)) ggX4_shift_X4_goes
set_option maxRecDepth 20000 in
theorem ggX4_shift_X4_goesOn : GoodIn wsX4_shift wsX4_goesOn := goodIn_r _ [18, 1, 19, 20, 6, 21, 22, 23, 39, 40, 41, 42, 43, 44, 45, 46, 47, 48, 49, 50, 51, 52, 53, 54, 55] (by decide +kernel) (by decide +kernel)
set_option maxRecDepth 20000 in
theorem gX4_shift_X4_goesOn : GoodIn wsX4_shift (wsV RX4 104 RX4 yX4_goesOn wsX4_goesOn) := goodIn_app (goodIn_of _ (by decide +kernel)) ggX4_shift_X4_goesOn
set_option maxRecDepth 20000 in
theorem ggX4_shift_X4_moves : GoodIn wsX4_shift wsX4_moves := goodIn_r _ [27, 1, 28, 2, 29, 30, 31, 6, 32, 33, 34, 35, 36, 37, 38, 39, 40, 41, 42, 43, 44, 45, 46, 47, 48, 49, 50, 51, 52, 53, 54, 55] (by decide +kernel) (by decide +kernel)
set_option maxRecDepth 20000 in
theorem gX4_shift_X4_moves : GoodIn wsX4_shift (wsV RX4 111 RX4 yX4_moves wsX4_moves) := goodIn_app (goodIn_of _ (by decide +kernel)) ggX4_shift_X4_moves
set_option maxRecDepth 20000 in
theorem ggX4_filter_X4_known : GoodIn wsX4_filter wsX4_known := goodIn_r _ [8, 9, 15, 16, 17, 18, 19, 20, 21, 22, 23, 24, 25, 26, 27, 28, 29, 30, 31] (by decide +kernel) (by decide +kernel)
set_option maxRecDepth 20000 in
theorem gX4_filter_X4_known : GoodIn wsX4_filter (wsV RX4 107 RX4 yX4_known wsX4_known) := goodIn_app (goodIn_of _ (by decide +kernel)) ggX4_filter_X4_known
set_option maxRecDepth 20000 in
theorem ggX4_filter_X4_goes : GoodIn wsX4_filter wsX4_goes := goodIn_r _ [13, 14, 15, 16, 17, 18, 19, 20, 21, 22, 23, 24, 25, 26, 27, 28, 29, 30, 31] (by decide +kernel) (by decide +kernel)
set_option maxRecDepth 20000 in
theorem gX4_filter_X4_goes : GoodIn wsX4_filter (wsV RX4 66 RX4 yX4_goes wsX4_goes) := goodIn_app (goodIn_of _ (by decide +kernel)) ggX4_filter_X4_goes
set_option maxRecDepth 20000 in
theorem ggX4_isPair_X4_bit : GoodIn wsX4_isPair wsX4_bit := goodIn_r _ [5] (by decide +kernel) (by decide +kernel)
set_option maxRecDepth 20000 in
theorem gX4_isPair_X4_bit : GoodIn wsX4_isPair (va_wsS RX4 115 yX4_bit wsX4_bit) := goodIn_app (goodIn_of _ (by decide +kernel)) ggX4_isPair_X4_bit
set_option maxRecDepth 20000 in
theorem ggX4_pairsOf_X4_isPair : GoodIn wsX4_pairsOf wsX4_isPair := goodIn_r _ [5, 6, 7, 8, 4, 9, 10, 11, 12, 13, 14, 15, 16, 17, 18, 19, 20, 21, 22, 23, 24, 25, 26] (by decide +kernel) (by decide +kernel)
set_option maxRecDepth 20000 in
theorem gX4_pairsOf_X4_isPair : GoodIn wsX4_pairsOf (wsV RX4 119 RX4 yX4_isPair wsX4_isPair) := goodIn_app (goodIn_of _ (by decide +kernel)) ggX4_pairsOf_X4_isPair
set_option maxRecDepth 20000 in
theorem ggX4_remove_X4_known : GoodIn wsX4_remove wsX4_known := goodIn_r _ [8, 2, 25, 26, 27, 28, 29, 30, 31, 32, 33, 34, 35, 36, 37, 38, 39, 40, 41] (by decide +kernel) (by decide +kernel)
set_option maxRecDepth 20000 in
theorem gX4_remove_X4_known : GoodIn wsX4_remove (wsV RX4 107 RX4 yX4_known wsX4_known) := goodIn_app (goodIn_of _ (by decide +kernel)) ggX4_remove_X4_known
set_option maxRecDepth 20000 in
theorem ggX4_remove_X4_goes : GoodIn wsX4_remove wsX4_goes := goodIn_r _ [12, 13, 25, 26, 27, 28, 29, 30, 31, 32, 33, 34, 35, 36, 37, 38, 39, 40, 41] (by decide +kernel) (by decide +kernel)
set_option maxRecDepth 20000 in
theorem gX4_remove_X4_goes : GoodIn wsX4_remove (wsV RX4 66 RX4 yX4_goes wsX4_goes) := goodIn_app (goodIn_of _ (by decide +kernel)) ggX4_remove_X4_goes
set_option maxRecDepth 20000 in
theorem ggX4_remove_X4_pairsOf : GoodIn wsX4_remove wsX4_pairsOf := goodIn_r _ [17, 18, 19, 20, 7, 21, 1, 22, 23, 24, 25, 26, 27, 28, 29, 30, 31, 32, 33, 34, 35, 36, 37, 38, 39, 40, 41] (by decide +kernel) (by decide +kernel)
set_option maxRecDepth 20000 in
theorem gX4_remove_X4_pairsOf : GoodIn wsX4_remove (wsV RX4 123 RX4 yX4_pairsOf wsX4_pairsOf) := goodIn_app (goodIn_of _ (by decide +kernel)) ggX4_remove_X4_pairsOf
set_option maxRecDepth 20000 in
theorem ggX4_look_X4_through : GoodIn wsX4_look wsX4_through := goodIn_r _ [7, 8, 9, 15, 16, 17, 18, 19, 20, 21, 22, 23, 24, 25, 26, 27, 28, 29, 30, 31] (by decide +kernel) (by decide +kernel)
set_option maxRecDepth 20000 in
theorem gX4_look_X4_through : GoodIn wsX4_look (wsV RX4 127 RX4 yX4_through wsX4_through) := goodIn_app (goodIn_of _ (by decide +kernel)) ggX4_look_X4_through
set_option maxRecDepth 20000 in
theorem ggX4_look_X4_overlap : GoodIn wsX4_look wsX4_overlap := goodIn_r _ [13, 14, 15, 16, 17, 18, 19, 20, 21, 22, 23, 24, 25, 26, 27, 28, 29, 30, 31] (by decide +kernel) (by decide +kernel)
set_option maxRecDepth 20000 in
theorem gX4_look_X4_overlap : GoodIn wsX4_look (wsV RX4 130 RX4 yX4_overlap wsX4_overlap) := goodIn_app (goodIn_of _ (by decide +kernel)) ggX4_look_X4_overlap
set_option maxRecDepth 20000 in
theorem ggX4_update_X4_look : GoodIn wsX4_update wsX4_look := goodIn_r _ [11, 1, 12, 13, 14, 15, 10, 16, 17, 18, 19, 20, 21, 22, 23, 32, 33, 34, 35, 36, 37, 38, 39, 40, 41, 42, 43, 44, 45, 46, 47, 48] (by decide +kernel) (by decide +kernel)
set_option maxRecDepth 20000 in
theorem gX4_update_X4_look : GoodIn wsX4_update (wsV RX4 133 RX4 yX4_look wsX4_look) := goodIn_app (goodIn_of _ (by decide +kernel)) ggX4_update_X4_look
set_option maxRecDepth 20000 in
theorem ggX4_update_X4_bits : GoodIn wsX4_update wsX4_bits := goodIn_r _ [26] (by decide +kernel) (by decide +kernel)
set_option maxRecDepth 20000 in
theorem gX4_update_X4_bits : GoodIn wsX4_update (va_wsS RX4 136 yX4_bits wsX4_bits) := goodIn_app (goodIn_of _ (by decide +kernel)) ggX4_update_X4_bits
set_option maxRecDepth 20000 in
theorem ggX4_update_X4_goes : GoodIn wsX4_update wsX4_goes := goodIn_r _ [30, 31, 32, 33, 34, 35, 36, 37, 38, 39, 40, 41, 42, 43, 44, 45, 46, 47, 48] (by decide +kernel) (by decide +kernel)
set_option maxRecDepth 20000 in
theorem gX4_update_X4_goes : GoodIn wsX4_update (wsV RX4 66 RX4 yX4_goes wsX4_goes) := goodIn_app (goodIn_of _ (by decide +kernel)) ggX4_update_X4_goes
set_option maxRecDepth 20000 in
theorem ggX4_pair_X4_nth : GoodIn wsX4_pair wsX4_nth := goodIn_r _ [7] (by decide +kernel) (by decide +kernel)
set_option maxRecDepth 20000 in
theorem gX4_pair_X4_nth : GoodIn wsX4_pair (va_wsS RX4 143 yX4_nth wsX4_nth) := goodIn_app (goodIn_of _ (by decide +kernel)) ggX4_pair_X4_nth
set_option maxRecDepth 20000 in
theorem ggX4_pair_X4_goes : GoodIn wsX4_pair wsX4_goes := goodIn_r _ [11, 12, 13, 14, 15, 16, 17, 18, 19, 20, 21, 22, 23, 24, 25, 26, 27, 28, 29] (by decide +kernel) (by decide +kernel)
set_option maxRecDepth 20000 in
theorem gX4_pair_X4_goes : GoodIn wsX4_pair (wsV RX4 66 RX4 yX4_goes wsX4_goes) := goodIn_app (goodIn_of _ (by decide +kernel)) ggX4_pair_X4_goes
set_option maxRecDepth 20000 in
theorem ggX4_paired_X4_known : GoodIn wsX4_paired wsX4_known := goodIn_r _ [5, 6, 20, 21, 22, 23, 24, 25, 26, 27, 28, 29, 30, 31, 32, 33, 34, 35, 36] (by decide +kernel) (by decide +kernel)
set_option maxRecDepth 20000 in
theorem gX4_paired_X4_known : GoodIn wsX4_paired (wsV RX4 107 RX4 yX4_known wsX4_known) := goodIn_app (goodIn_of _ (by decide +kernel)) ggX4_paired_X4_known
set_option maxRecDepth 20000 in
theorem ggX4_paired_X4_goes : GoodIn wsX4_paired wsX4_goes := goodIn_r _ [10, 11, 20, 21, 22, 23, 24, 25, 26, 27, 28, 29, 30, 31, 32, 33, 34, 35, 36] (by decide +kernel) (by decide +kernel)
set_option maxRecDepth 20000 in
theorem gX4_paired_X4_goes : GoodIn wsX4_paired (wsV RX4 66 RX4 yX4_goes wsX4_goes) := goodIn_app (goodIn_of _ (by decide +kernel)) ggX4_paired_X4_goes
set_option maxRecDepth 20000 in
theorem ggX4_paired_X4_isPair : GoodIn wsX4_paired wsX4_isPair := goodIn_r _ [15, 16, 17, 18, 4, 19, 20, 21, 22, 23, 24, 25, 26, 27, 28, 29, 30, 31, 32, 33, 34, 35, 36] (by decide +kernel) (by decide +kernel)
set_option maxRecDepth 20000 in
theorem gX4_paired_X4_isPair : GoodIn wsX4_paired (wsV RX4 119 RX4 yX4_isPair wsX4_isPair) := goodIn_app (goodIn_of _ (by decide +kernel)) ggX4_paired_X4_isPair
set_option maxRecDepth 20000 in
theorem ggX4_overlapping_X4_padIsBox : GoodIn wsX4_overlapping wsX4_padIsBox := goodIn_r _ [12, 5, 18, 19, 20, 21, 22, 23, 24, 25, 26, 27, 28, 29, 30, 31, 32, 33, 34] (by decide +kernel) (by decide +kernel)
set_option maxRecDepth 20000 in
theorem gX4_overlapping_X4_padIsBox : GoodIn wsX4_overlapping (wsV RX4 86 RX4 yX4_padIsBox wsX4_padIsBox) := goodIn_app (goodIn_of _ (by decide +kernel)) ggX4_overlapping_X4_padIsBox
set_option maxRecDepth 20000 in
theorem ggX4_overlapping_X4_goes : GoodIn wsX4_overlapping wsX4_goes := goodIn_r _ [16, 17, 18, 19, 20, 21, 22, 23, 24, 25, 26, 27, 28, 29, 30, 31, 32, 33, 34] (by decide +kernel) (by decide +kernel)
set_option maxRecDepth 20000 in
theorem gX4_overlapping_X4_goes : GoodIn wsX4_overlapping (wsV RX4 66 RX4 yX4_goes wsX4_goes) := goodIn_app (goodIn_of _ (by decide +kernel)) ggX4_overlapping_X4_goes
set_option maxRecDepth 20000 in
theorem ggX4_meeting_X4_enters : GoodIn wsX4_meeting wsX4_enters := goodIn_r _ [11, 12, 13, 14, 15, 16, 17, 18, 19, 20, 21, 22, 23, 24, 25, 26, 27, 28, 29, 30] (by decide +kernel) (by decide +kernel)
set_option maxRecDepth 20000 in
theorem gX4_meeting_X4_enters : GoodIn wsX4_meeting (wsV RX4 150 RX4 yX4_enters wsX4_enters) := goodIn_app (goodIn_of _ (by decide +kernel)) ggX4_meeting_X4_enters
set_option maxRecDepth 20000 in
theorem ggX4_found_X4_goes : GoodIn wsX4_found wsX4_goes := goodIn_r _ [7, 8, 9, 10, 11, 12, 13, 14, 15, 16, 17, 18, 19, 20, 21, 22, 23, 24, 25] (by decide +kernel) (by decide +kernel)
set_option maxRecDepth 20000 in
theorem gX4_found_X4_goes : GoodIn wsX4_found (wsV RX4 66 RX4 yX4_goes wsX4_goes) := goodIn_app (goodIn_of _ (by decide +kernel)) ggX4_found_X4_goes
set_option maxRecDepth 20000 in
theorem ggX4_where_X4_goes : GoodIn wsX4_where wsX4_goes := goodIn_r _ [7, 8, 9, 10, 11, 12, 13, 14, 15, 16, 17, 18, 19, 20, 21, 22, 23, 24, 25] (by decide +kernel) (by decide +kernel)
set_option maxRecDepth 20000 in
theorem gX4_where_X4_goes : GoodIn wsX4_where (wsV RX4 66 RX4 yX4_goes wsX4_goes) := goodIn_app (goodIn_of _ (by decide +kernel)) ggX4_where_X4_goes
set_option maxRecDepth 20000 in
theorem ggX4_corner_X4_known : GoodIn wsX4_corner wsX4_known := goodIn_r _ [7, 8, 14, 15, 16, 17, 18, 19, 20, 21, 22, 23, 24, 25, 26, 27, 28, 29, 30] (by decide +kernel) (by decide +kernel)
set_option maxRecDepth 20000 in
theorem gX4_corner_X4_known : GoodIn wsX4_corner (wsV RX4 107 RX4 yX4_known wsX4_known) := goodIn_app (goodIn_of _ (by decide +kernel)) ggX4_corner_X4_known
set_option maxRecDepth 20000 in
theorem ggX4_corner_X4_goes : GoodIn wsX4_corner wsX4_goes := goodIn_r _ [12, 13, 14, 15, 16, 17, 18, 19, 20, 21, 22, 23, 24, 25, 26, 27, 28, 29, 30] (by decide +kernel) (by decide +kernel)
set_option maxRecDepth 20000 in
theorem gX4_corner_X4_goes : GoodIn wsX4_corner (wsV RX4 66 RX4 yX4_goes wsX4_goes) := goodIn_app (goodIn_of _ (by decide +kernel)) ggX4_corner_X4_goes
set_option maxRecDepth 20000 in
theorem ggX4_about_X4_known : GoodIn wsX4_about wsX4_known := goodIn_r _ [8, 9, 27, 28, 29, 30, 31, 32, 33, 34, 35, 36, 37, 38, 39, 40, 41, 42, 43] (by decide +kernel) (by decide +kernel)
set_option maxRecDepth 20000 in
theorem gX4_about_X4_known : GoodIn wsX4_about (wsV RX4 107 RX4 yX4_known wsX4_known) := goodIn_app (goodIn_of _ (by decide +kernel)) ggX4_about_X4_known
set_option maxRecDepth 20000 in
theorem ggX4_about_X4_goes : GoodIn wsX4_about wsX4_goes := goodIn_r _ [13, 14, 27, 28, 29, 30, 31, 32, 33, 34, 35, 36, 37, 38, 39, 40, 41, 42, 43] (by decide +kernel) (by decide +kernel)
set_option maxRecDepth 20000 in
theorem gX4_about_X4_goes : GoodIn wsX4_about (wsV RX4 66 RX4 yX4_goes wsX4_goes) := goodIn_app (goodIn_of _ (by decide +kernel)) ggX4_about_X4_goes
set_option maxRecDepth 20000 in
theorem ggX4_about_X4_pairsOf : GoodIn wsX4_about wsX4_pairsOf := goodIn_r _ [18, 19, 20, 21, 7, 22, 23, 24, 25, 26, 27, 28, 29, 30, 31, 32, 33, 34, 35, 36, 37, 38, 39, 40, 41, 42, 43] (by decide +kernel) (by decide +kernel)
set_option maxRecDepth 20000 in
theorem gX4_about_X4_pairsOf : GoodIn wsX4_about (wsV RX4 123 RX4 yX4_pairsOf wsX4_pairsOf) := goodIn_app (goodIn_of _ (by decide +kernel)) ggX4_about_X4_pairsOf
set_option maxRecDepth 20000 in
theorem ggX4_count_X4_goes : GoodIn wsX4_count wsX4_goes := goodIn_r _ [11, 12, 21, 22, 23, 24, 25, 26, 27, 28, 29, 30, 31, 32, 33, 34, 35, 36, 37] (by decide +kernel) (by decide +kernel)
set_option maxRecDepth 20000 in
theorem gX4_count_X4_goes : GoodIn wsX4_count (wsV RX4 66 RX4 yX4_goes wsX4_goes) := goodIn_app (goodIn_of _ (by decide +kernel)) ggX4_count_X4_goes
set_option maxRecDepth 20000 in
theorem ggX4_count_X4_bodies : GoodIn wsX4_count wsX4_bodies := goodIn_r _ [16, 17, 21, 22, 23, 24, 25, 26, 27, 28, 29, 30, 31, 32, 33, 34, 35, 36, 37] (by decide +kernel) (by decide +kernel)
set_option maxRecDepth 20000 in
theorem gX4_count_X4_bodies : GoodIn wsX4_count (wsV RX4 90 RX4 yX4_bodies wsX4_bodies) := goodIn_app (goodIn_of _ (by decide +kernel)) ggX4_count_X4_bodies
set_option maxRecDepth 20000 in
theorem ggX4_count_X4_bits : GoodIn wsX4_count wsX4_bits := goodIn_r _ [20] (by decide +kernel) (by decide +kernel)
set_option maxRecDepth 20000 in
theorem gX4_count_X4_bits : GoodIn wsX4_count (va_wsS RX4 136 yX4_bits wsX4_bits) := goodIn_app (goodIn_of _ (by decide +kernel)) ggX4_count_X4_bits
abbrev vwCl : List vw_C := [(RX0, TX0, 6), (RX1, TX1, 1), (RX2, TX2, 2), (RX3, TX3, 12), (RX4, TX4, 17)]
/-! ===== END printed: names ===== -/
end
section
theorem dX0_init_0 : decode cX0_init 0 = .ok (.aload_n 0, 1) := by decide +kernel
theorem dX0_init_1 : decode cX0_init 1 = .ok (.invokespecial 1, 3) := by decide +kernel
theorem dX0_init_4 : decode cX0_init 4 = .ok (.aload_n 0, 1) := by decide +kernel
theorem dX0_init_5 : decode cX0_init 5 = .ok (.new 7, 3) := by decide +kernel
theorem dX0_init_8 : decode cX0_init 8 = .ok (.dup, 1) := by decide +kernel
theorem dX0_init_9 : decode cX0_init 9 = .ok (.invokespecial 9, 3) := by decide +kernel
theorem dX0_init_12 : decode cX0_init 12 = .ok (.putfield 10, 3) := by decide +kernel
theorem dX0_init_15 : decode cX0_init 15 = .ok (.aload_n 0, 1) := by decide +kernel
theorem dX0_init_16 : decode cX0_init 16 = .ok (.new 7, 3) := by decide +kernel
theorem dX0_init_19 : decode cX0_init 19 = .ok (.dup, 1) := by decide +kernel
theorem dX0_init_20 : decode cX0_init 20 = .ok (.invokespecial 9, 3) := by decide +kernel
theorem dX0_init_23 : decode cX0_init 23 = .ok (.putfield 16, 3) := by decide +kernel
theorem dX0_init_26 : decode cX0_init 26 = .ok (.return_, 1) := by decide +kernel
theorem dX0_appear_0 : decode cX0_appear 0 = .ok (.aload_n 0, 1) := by decide +kernel
theorem dX0_appear_1 : decode cX0_appear 1 = .ok (.iconst 1, 1) := by decide +kernel
theorem dX0_appear_2 : decode cX0_appear 2 = .ok (.putfield 19, 3) := by decide +kernel
theorem dX0_appear_5 : decode cX0_appear 5 = .ok (.aload_n 0, 1) := by decide +kernel
theorem dX0_appear_6 : decode cX0_appear 6 = .ok (.getfield 10, 3) := by decide +kernel
theorem dX0_appear_9 : decode cX0_appear 9 = .ok (.aload_n 1, 1) := by decide +kernel
theorem dX0_appear_10 : decode cX0_appear 10 = .ok (.invokevirtual 23, 3) := by decide +kernel
theorem dX0_appear_13 : decode cX0_appear 13 = .ok (.aload_n 0, 1) := by decide +kernel
theorem dX0_appear_14 : decode cX0_appear 14 = .ok (.getfield 16, 3) := by decide +kernel
theorem dX0_appear_17 : decode cX0_appear 17 = .ok (.aload_n 1, 1) := by decide +kernel
theorem dX0_appear_18 : decode cX0_appear 18 = .ok (.invokevirtual 23, 3) := by decide +kernel
theorem dX0_appear_21 : decode cX0_appear 21 = .ok (.aload_n 0, 1) := by decide +kernel
theorem dX0_appear_22 : decode cX0_appear 22 = .ok (.getfield 16, 3) := by decide +kernel
theorem dX0_appear_25 : decode cX0_appear 25 = .ok (.fconst 0, 1) := by decide +kernel
theorem dX0_appear_26 : decode cX0_appear 26 = .ok (.fconst 0, 1) := by decide +kernel
theorem dX0_appear_27 : decode cX0_appear 27 = .ok (.fconst 0, 1) := by decide +kernel
theorem dX0_appear_28 : decode cX0_appear 28 = .ok (.invokevirtual 27, 3) := by decide +kernel
theorem dX0_appear_31 : decode cX0_appear 31 = .ok (.aload_n 0, 1) := by decide +kernel
theorem dX0_appear_32 : decode cX0_appear 32 = .ok (.iload_n 2, 1) := by decide +kernel
theorem dX0_appear_33 : decode cX0_appear 33 = .ok (.iload_n 3, 1) := by decide +kernel
theorem dX0_appear_34 : decode cX0_appear 34 = .ok (.invokevirtual 31, 3) := by decide +kernel
theorem dX0_appear_37 : decode cX0_appear 37 = .ok (.return_, 1) := by decide +kernel
theorem dX0_leave_0 : decode cX0_leave 0 = .ok (.aload_n 0, 1) := by decide +kernel
theorem dX0_leave_1 : decode cX0_leave 1 = .ok (.iconst 0, 1) := by decide +kernel
theorem dX0_leave_2 : decode cX0_leave 2 = .ok (.putfield 19, 3) := by decide +kernel
theorem dX0_leave_5 : decode cX0_leave 5 = .ok (.aload_n 0, 1) := by decide +kernel
theorem dX0_leave_6 : decode cX0_leave 6 = .ok (.iconst 0, 1) := by decide +kernel
theorem dX0_leave_7 : decode cX0_leave 7 = .ok (.putfield 35, 3) := by decide +kernel
theorem dX0_leave_10 : decode cX0_leave 10 = .ok (.return_, 1) := by decide +kernel
theorem dX0_setFilter_0 : decode cX0_setFilter 0 = .ok (.aload_n 0, 1) := by decide +kernel
theorem dX0_setFilter_1 : decode cX0_setFilter 1 = .ok (.iload_n 1, 1) := by decide +kernel
theorem dX0_setFilter_2 : decode cX0_setFilter 2 = .ok (.putfield 38, 3) := by decide +kernel
theorem dX0_setFilter_5 : decode cX0_setFilter 5 = .ok (.aload_n 0, 1) := by decide +kernel
theorem dX0_setFilter_6 : decode cX0_setFilter 6 = .ok (.iload_n 2, 1) := by decide +kernel
theorem dX0_setFilter_7 : decode cX0_setFilter 7 = .ok (.putfield 42, 3) := by decide +kernel
theorem dX0_setFilter_10 : decode cX0_setFilter 10 = .ok (.aload_n 0, 1) := by decide +kernel
theorem dX0_setFilter_11 : decode cX0_setFilter 11 = .ok (.iconst 1, 1) := by decide +kernel
theorem dX0_setFilter_12 : decode cX0_setFilter 12 = .ok (.putfield 35, 3) := by decide +kernel
theorem dX0_setFilter_15 : decode cX0_setFilter 15 = .ok (.return_, 1) := by decide +kernel
theorem dX0_moveTo_0 : decode cX0_moveTo 0 = .ok (.aload_n 0, 1) := by decide +kernel
theorem dX0_moveTo_1 : decode cX0_moveTo 1 = .ok (.getfield 10, 3) := by decide +kernel
theorem dX0_moveTo_4 : decode cX0_moveTo 4 = .ok (.aload_n 1, 1) := by decide +kernel
theorem dX0_moveTo_5 : decode cX0_moveTo 5 = .ok (.invokevirtual 23, 3) := by decide +kernel
theorem dX0_moveTo_8 : decode cX0_moveTo 8 = .ok (.aload_n 0, 1) := by decide +kernel
theorem dX0_moveTo_9 : decode cX0_moveTo 9 = .ok (.getfield 10, 3) := by decide +kernel
theorem dX0_moveTo_12 : decode cX0_moveTo 12 = .ok (.aload_n 0, 1) := by decide +kernel
theorem dX0_moveTo_13 : decode cX0_moveTo 13 = .ok (.getfield 16, 3) := by decide +kernel
theorem dX0_moveTo_16 : decode cX0_moveTo 16 = .ok (.invokevirtual 45, 3) := by decide +kernel
theorem dX0_moveTo_19 : decode cX0_moveTo 19 = .ok (.ifCond .eq 5, 3) := by decide +kernel
theorem dX0_moveTo_22 : decode cX0_moveTo 22 = .ok (.iconst 0, 1) := by decide +kernel
theorem dX0_moveTo_23 : decode cX0_moveTo 23 = .ok (.ireturn, 1) := by decide +kernel
theorem dX0_moveTo_24 : decode cX0_moveTo 24 = .ok (.aload_n 0, 1) := by decide +kernel
theorem dX0_moveTo_25 : decode cX0_moveTo 25 = .ok (.getfield 16, 3) := by decide +kernel
theorem dX0_moveTo_28 : decode cX0_moveTo 28 = .ok (.aload_n 1, 1) := by decide +kernel
theorem dX0_moveTo_29 : decode cX0_moveTo 29 = .ok (.invokevirtual 23, 3) := by decide +kernel
theorem dX0_moveTo_32 : decode cX0_moveTo 32 = .ok (.aload_n 0, 1) := by decide +kernel
theorem dX0_moveTo_33 : decode cX0_moveTo 33 = .ok (.getfield 16, 3) := by decide +kernel
theorem dX0_moveTo_36 : decode cX0_moveTo 36 = .ok (.fload_n 2, 1) := by decide +kernel
theorem dX0_moveTo_37 : decode cX0_moveTo 37 = .ok (.fload_n 3, 1) := by decide +kernel
theorem dX0_moveTo_38 : decode cX0_moveTo 38 = .ok (.fload 4, 2) := by decide +kernel
theorem dX0_moveTo_40 : decode cX0_moveTo 40 = .ok (.invokevirtual 27, 3) := by decide +kernel
theorem dX0_moveTo_43 : decode cX0_moveTo 43 = .ok (.aload_n 0, 1) := by decide +kernel
theorem dX0_moveTo_44 : decode cX0_moveTo 44 = .ok (.iconst 1, 1) := by decide +kernel
theorem dX0_moveTo_45 : decode cX0_moveTo 45 = .ok (.putfield 35, 3) := by decide +kernel
theorem dX0_moveTo_48 : decode cX0_moveTo 48 = .ok (.iconst 1, 1) := by decide +kernel
theorem dX0_moveTo_49 : decode cX0_moveTo 49 = .ok (.ireturn, 1) := by decide +kernel
theorem dX0_pairsWith_0 : decode cX0_pairsWith 0 = .ok (.aload_n 0, 1) := by decide +kernel
theorem dX0_pairsWith_1 : decode cX0_pairsWith 1 = .ok (.getfield 19, 3) := by decide +kernel
theorem dX0_pairsWith_4 : decode cX0_pairsWith 4 = .ok (.ifCond .eq 52, 3) := by decide +kernel
theorem dX0_pairsWith_7 : decode cX0_pairsWith 7 = .ok (.aload_n 1, 1) := by decide +kernel
theorem dX0_pairsWith_8 : decode cX0_pairsWith 8 = .ok (.getfield 19, 3) := by decide +kernel
theorem dX0_pairsWith_11 : decode cX0_pairsWith 11 = .ok (.ifCond .eq 45, 3) := by decide +kernel
theorem dX0_pairsWith_14 : decode cX0_pairsWith 14 = .ok (.aload_n 0, 1) := by decide +kernel
theorem dX0_pairsWith_15 : decode cX0_pairsWith 15 = .ok (.getfield 38, 3) := by decide +kernel
theorem dX0_pairsWith_18 : decode cX0_pairsWith 18 = .ok (.aload_n 1, 1) := by decide +kernel
theorem dX0_pairsWith_19 : decode cX0_pairsWith 19 = .ok (.getfield 42, 3) := by decide +kernel
theorem dX0_pairsWith_22 : decode cX0_pairsWith 22 = .ok (.iand, 1) := by decide +kernel
theorem dX0_pairsWith_23 : decode cX0_pairsWith 23 = .ok (.ifCond .eq 33, 3) := by decide +kernel
theorem dX0_pairsWith_26 : decode cX0_pairsWith 26 = .ok (.aload_n 1, 1) := by decide +kernel
theorem dX0_pairsWith_27 : decode cX0_pairsWith 27 = .ok (.getfield 38, 3) := by decide +kernel
theorem dX0_pairsWith_30 : decode cX0_pairsWith 30 = .ok (.aload_n 0, 1) := by decide +kernel
theorem dX0_pairsWith_31 : decode cX0_pairsWith 31 = .ok (.getfield 42, 3) := by decide +kernel
theorem dX0_pairsWith_34 : decode cX0_pairsWith 34 = .ok (.iand, 1) := by decide +kernel
theorem dX0_pairsWith_35 : decode cX0_pairsWith 35 = .ok (.ifCond .eq 21, 3) := by decide +kernel
theorem dX0_pairsWith_38 : decode cX0_pairsWith 38 = .ok (.aload_n 0, 1) := by decide +kernel
theorem dX0_pairsWith_39 : decode cX0_pairsWith 39 = .ok (.getfield 16, 3) := by decide +kernel
theorem dX0_pairsWith_42 : decode cX0_pairsWith 42 = .ok (.aload_n 1, 1) := by decide +kernel
theorem dX0_pairsWith_43 : decode cX0_pairsWith 43 = .ok (.getfield 16, 3) := by decide +kernel
theorem dX0_pairsWith_46 : decode cX0_pairsWith 46 = .ok (.invokevirtual 49, 3) := by decide +kernel
theorem dX0_pairsWith_49 : decode cX0_pairsWith 49 = .ok (.ifCond .eq 7, 3) := by decide +kernel
theorem dX0_pairsWith_52 : decode cX0_pairsWith 52 = .ok (.iconst 1, 1) := by decide +kernel
theorem dX0_pairsWith_53 : decode cX0_pairsWith 53 = .ok (.goto 4, 3) := by decide +kernel
theorem dX0_pairsWith_56 : decode cX0_pairsWith 56 = .ok (.iconst 0, 1) := by decide +kernel
theorem dX0_pairsWith_57 : decode cX0_pairsWith 57 = .ok (.ireturn, 1) := by decide +kernel
theorem dX1_init_0 : decode cX1_init 0 = .ok (.aload_n 0, 1) := by decide +kernel
theorem dX1_init_1 : decode cX1_init 1 = .ok (.invokespecial 3, 3) := by decide +kernel
theorem dX1_init_4 : decode cX1_init 4 = .ok (.aload_n 0, 1) := by decide +kernel
theorem dX1_init_5 : decode cX1_init 5 = .ok (.bipush 6, 2) := by decide +kernel
theorem dX1_init_7 : decode cX1_init 7 = .ok (.newarray .float, 2) := by decide +kernel
theorem dX1_init_9 : decode cX1_init 9 = .ok (.putfield 11, 3) := by decide +kernel
theorem dX1_init_12 : decode cX1_init 12 = .ok (.return_, 1) := by decide +kernel
theorem dX1_setCorner_0 : decode cX1_setCorner 0 = .ok (.iload_n 1, 1) := by decide +kernel
theorem dX1_setCorner_1 : decode cX1_setCorner 1 = .ok (.ifCond .ne 7, 3) := by decide +kernel
theorem dX1_setCorner_4 : decode cX1_setCorner 4 = .ok (.iconst 0, 1) := by decide +kernel
theorem dX1_setCorner_5 : decode cX1_setCorner 5 = .ok (.goto 4, 3) := by decide +kernel
theorem dX1_setCorner_8 : decode cX1_setCorner 8 = .ok (.iconst 3, 1) := by decide +kernel
theorem dX1_setCorner_9 : decode cX1_setCorner 9 = .ok (.istore 5, 2) := by decide +kernel
theorem dX1_setCorner_11 : decode cX1_setCorner 11 = .ok (.aload_n 0, 1) := by decide +kernel
theorem dX1_setCorner_12 : decode cX1_setCorner 12 = .ok (.getfield 11, 3) := by decide +kernel
theorem dX1_setCorner_15 : decode cX1_setCorner 15 = .ok (.iload 5, 2) := by decide +kernel
theorem dX1_setCorner_17 : decode cX1_setCorner 17 = .ok (.fload_n 2, 1) := by decide +kernel
theorem dX1_setCorner_18 : decode cX1_setCorner 18 = .ok (.fastore, 1) := by decide +kernel
theorem dX1_setCorner_19 : decode cX1_setCorner 19 = .ok (.aload_n 0, 1) := by decide +kernel
theorem dX1_setCorner_20 : decode cX1_setCorner 20 = .ok (.getfield 11, 3) := by decide +kernel
theorem dX1_setCorner_23 : decode cX1_setCorner 23 = .ok (.iload 5, 2) := by decide +kernel
theorem dX1_setCorner_25 : decode cX1_setCorner 25 = .ok (.iconst 1, 1) := by decide +kernel
theorem dX1_setCorner_26 : decode cX1_setCorner 26 = .ok (.iadd, 1) := by decide +kernel
theorem dX1_setCorner_27 : decode cX1_setCorner 27 = .ok (.fload_n 3, 1) := by decide +kernel
theorem dX1_setCorner_28 : decode cX1_setCorner 28 = .ok (.fastore, 1) := by decide +kernel
theorem dX1_setCorner_29 : decode cX1_setCorner 29 = .ok (.aload_n 0, 1) := by decide +kernel
theorem dX1_setCorner_30 : decode cX1_setCorner 30 = .ok (.getfield 11, 3) := by decide +kernel
theorem dX1_setCorner_33 : decode cX1_setCorner 33 = .ok (.iload 5, 2) := by decide +kernel
theorem dX1_setCorner_35 : decode cX1_setCorner 35 = .ok (.iconst 2, 1) := by decide +kernel
theorem dX1_setCorner_36 : decode cX1_setCorner 36 = .ok (.iadd, 1) := by decide +kernel
theorem dX1_setCorner_37 : decode cX1_setCorner 37 = .ok (.fload 4, 2) := by decide +kernel
theorem dX1_setCorner_39 : decode cX1_setCorner 39 = .ok (.fastore, 1) := by decide +kernel
theorem dX1_setCorner_40 : decode cX1_setCorner 40 = .ok (.return_, 1) := by decide +kernel
theorem dX1_copyFrom_0 : decode cX1_copyFrom 0 = .ok (.aload_n 1, 1) := by decide +kernel
theorem dX1_copyFrom_1 : decode cX1_copyFrom 1 = .ok (.getfield 11, 3) := by decide +kernel
theorem dX1_copyFrom_4 : decode cX1_copyFrom 4 = .ok (.iconst 0, 1) := by decide +kernel
theorem dX1_copyFrom_5 : decode cX1_copyFrom 5 = .ok (.aload_n 0, 1) := by decide +kernel
theorem dX1_copyFrom_6 : decode cX1_copyFrom 6 = .ok (.getfield 11, 3) := by decide +kernel
theorem dX1_copyFrom_9 : decode cX1_copyFrom 9 = .ok (.iconst 0, 1) := by decide +kernel
theorem dX1_copyFrom_10 : decode cX1_copyFrom 10 = .ok (.bipush 6, 2) := by decide +kernel
theorem dX1_copyFrom_12 : decode cX1_copyFrom 12 = .ok (.invokestatic 15, 3) := by decide +kernel
theorem dX1_copyFrom_15 : decode cX1_copyFrom 15 = .ok (.return_, 1) := by decide +kernel
theorem dX1_moveBy_0 : decode cX1_moveBy 0 = .ok (.iconst 0, 1) := by decide +kernel
theorem dX1_moveBy_1 : decode cX1_moveBy 1 = .ok (.istore 4, 2) := by decide +kernel
theorem dX1_moveBy_3 : decode cX1_moveBy 3 = .ok (.iload 4, 2) := by decide +kernel
theorem dX1_moveBy_5 : decode cX1_moveBy 5 = .ok (.iconst 3, 1) := by decide +kernel
theorem dX1_moveBy_6 : decode cX1_moveBy 6 = .ok (.if_icmp .gt 65, 3) := by decide +kernel
theorem dX1_moveBy_9 : decode cX1_moveBy 9 = .ok (.aload_n 0, 1) := by decide +kernel
theorem dX1_moveBy_10 : decode cX1_moveBy 10 = .ok (.getfield 11, 3) := by decide +kernel
theorem dX1_moveBy_13 : decode cX1_moveBy 13 = .ok (.iload 4, 2) := by decide +kernel
theorem dX1_moveBy_15 : decode cX1_moveBy 15 = .ok (.aload_n 0, 1) := by decide +kernel
theorem dX1_moveBy_16 : decode cX1_moveBy 16 = .ok (.getfield 11, 3) := by decide +kernel
theorem dX1_moveBy_19 : decode cX1_moveBy 19 = .ok (.iload 4, 2) := by decide +kernel
theorem dX1_moveBy_21 : decode cX1_moveBy 21 = .ok (.faload, 1) := by decide +kernel
theorem dX1_moveBy_22 : decode cX1_moveBy 22 = .ok (.fload_n 1, 1) := by decide +kernel
theorem dX1_moveBy_23 : decode cX1_moveBy 23 = .ok (.fadd, 1) := by decide +kernel
theorem dX1_moveBy_24 : decode cX1_moveBy 24 = .ok (.fastore, 1) := by decide +kernel
theorem dX1_moveBy_25 : decode cX1_moveBy 25 = .ok (.aload_n 0, 1) := by decide +kernel
theorem dX1_moveBy_26 : decode cX1_moveBy 26 = .ok (.getfield 11, 3) := by decide +kernel
theorem dX1_moveBy_29 : decode cX1_moveBy 29 = .ok (.iload 4, 2) := by decide +kernel
theorem dX1_moveBy_31 : decode cX1_moveBy 31 = .ok (.iconst 1, 1) := by decide +kernel
theorem dX1_moveBy_32 : decode cX1_moveBy 32 = .ok (.iadd, 1) := by decide +kernel
theorem dX1_moveBy_33 : decode cX1_moveBy 33 = .ok (.aload_n 0, 1) := by decide +kernel
theorem dX1_moveBy_34 : decode cX1_moveBy 34 = .ok (.getfield 11, 3) := by decide +kernel
theorem dX1_moveBy_37 : decode cX1_moveBy 37 = .ok (.iload 4, 2) := by decide +kernel
theorem dX1_moveBy_39 : decode cX1_moveBy 39 = .ok (.iconst 1, 1) := by decide +kernel
theorem dX1_moveBy_40 : decode cX1_moveBy 40 = .ok (.iadd, 1) := by decide +kernel
theorem dX1_moveBy_41 : decode cX1_moveBy 41 = .ok (.faload, 1) := by decide +kernel
theorem dX1_moveBy_42 : decode cX1_moveBy 42 = .ok (.fload_n 2, 1) := by decide +kernel
theorem dX1_moveBy_43 : decode cX1_moveBy 43 = .ok (.fadd, 1) := by decide +kernel
theorem dX1_moveBy_44 : decode cX1_moveBy 44 = .ok (.fastore, 1) := by decide +kernel
theorem dX1_moveBy_45 : decode cX1_moveBy 45 = .ok (.aload_n 0, 1) := by decide +kernel
theorem dX1_moveBy_46 : decode cX1_moveBy 46 = .ok (.getfield 11, 3) := by decide +kernel
theorem dX1_moveBy_49 : decode cX1_moveBy 49 = .ok (.iload 4, 2) := by decide +kernel
theorem dX1_moveBy_51 : decode cX1_moveBy 51 = .ok (.iconst 2, 1) := by decide +kernel
theorem dX1_moveBy_52 : decode cX1_moveBy 52 = .ok (.iadd, 1) := by decide +kernel
theorem dX1_moveBy_53 : decode cX1_moveBy 53 = .ok (.aload_n 0, 1) := by decide +kernel
theorem dX1_moveBy_54 : decode cX1_moveBy 54 = .ok (.getfield 11, 3) := by decide +kernel
theorem dX1_moveBy_57 : decode cX1_moveBy 57 = .ok (.iload 4, 2) := by decide +kernel
theorem dX1_moveBy_59 : decode cX1_moveBy 59 = .ok (.iconst 2, 1) := by decide +kernel
theorem dX1_moveBy_60 : decode cX1_moveBy 60 = .ok (.iadd, 1) := by decide +kernel
theorem dX1_moveBy_61 : decode cX1_moveBy 61 = .ok (.faload, 1) := by decide +kernel
theorem dX1_moveBy_62 : decode cX1_moveBy 62 = .ok (.fload_n 3, 1) := by decide +kernel
theorem dX1_moveBy_63 : decode cX1_moveBy 63 = .ok (.fadd, 1) := by decide +kernel
theorem dX1_moveBy_64 : decode cX1_moveBy 64 = .ok (.fastore, 1) := by decide +kernel
theorem dX1_moveBy_65 : decode cX1_moveBy 65 = .ok (.iinc 4 3, 3) := by decide +kernel
theorem dX1_moveBy_68 : decode cX1_moveBy 68 = .ok (.goto (-65), 3) := by decide +kernel
theorem dX1_moveBy_71 : decode cX1_moveBy 71 = .ok (.return_, 1) := by decide +kernel
theorem dX1_widen_0 : decode cX1_widen 0 = .ok (.aload_n 0, 1) := by decide +kernel
theorem dX1_widen_1 : decode cX1_widen 1 = .ok (.iconst 0, 1) := by decide +kernel
theorem dX1_widen_2 : decode cX1_widen 2 = .ok (.fload_n 1, 1) := by decide +kernel
theorem dX1_widen_3 : decode cX1_widen 3 = .ok (.invokevirtual 21, 3) := by decide +kernel
theorem dX1_widen_6 : decode cX1_widen 6 = .ok (.aload_n 0, 1) := by decide +kernel
theorem dX1_widen_7 : decode cX1_widen 7 = .ok (.iconst 1, 1) := by decide +kernel
theorem dX1_widen_8 : decode cX1_widen 8 = .ok (.fload_n 2, 1) := by decide +kernel
theorem dX1_widen_9 : decode cX1_widen 9 = .ok (.invokevirtual 21, 3) := by decide +kernel
theorem dX1_widen_12 : decode cX1_widen 12 = .ok (.aload_n 0, 1) := by decide +kernel
theorem dX1_widen_13 : decode cX1_widen 13 = .ok (.iconst 2, 1) := by decide +kernel
theorem dX1_widen_14 : decode cX1_widen 14 = .ok (.fload_n 3, 1) := by decide +kernel
theorem dX1_widen_15 : decode cX1_widen 15 = .ok (.invokevirtual 21, 3) := by decide +kernel
theorem dX1_widen_18 : decode cX1_widen 18 = .ok (.return_, 1) := by decide +kernel
theorem dX1_widenAxis_0 : decode cX1_widenAxis 0 = .ok (.aload_n 0, 1) := by decide +kernel
theorem dX1_widenAxis_1 : decode cX1_widenAxis 1 = .ok (.getfield 11, 3) := by decide +kernel
theorem dX1_widenAxis_4 : decode cX1_widenAxis 4 = .ok (.iconst 0, 1) := by decide +kernel
theorem dX1_widenAxis_5 : decode cX1_widenAxis 5 = .ok (.iload_n 1, 1) := by decide +kernel
theorem dX1_widenAxis_6 : decode cX1_widenAxis 6 = .ok (.iadd, 1) := by decide +kernel
theorem dX1_widenAxis_7 : decode cX1_widenAxis 7 = .ok (.faload, 1) := by decide +kernel
theorem dX1_widenAxis_8 : decode cX1_widenAxis 8 = .ok (.ldc 25, 2) := by decide +kernel
theorem dX1_widenAxis_10 : decode cX1_widenAxis 10 = .ok (.fsub, 1) := by decide +kernel
theorem dX1_widenAxis_11 : decode cX1_widenAxis 11 = .ok (.fstore_n 3, 1) := by decide +kernel
theorem dX1_widenAxis_12 : decode cX1_widenAxis 12 = .ok (.aload_n 0, 1) := by decide +kernel
theorem dX1_widenAxis_13 : decode cX1_widenAxis 13 = .ok (.getfield 11, 3) := by decide +kernel
theorem dX1_widenAxis_16 : decode cX1_widenAxis 16 = .ok (.iconst 3, 1) := by decide +kernel
theorem dX1_widenAxis_17 : decode cX1_widenAxis 17 = .ok (.iload_n 1, 1) := by decide +kernel
theorem dX1_widenAxis_18 : decode cX1_widenAxis 18 = .ok (.iadd, 1) := by decide +kernel
theorem dX1_widenAxis_19 : decode cX1_widenAxis 19 = .ok (.faload, 1) := by decide +kernel
theorem dX1_widenAxis_20 : decode cX1_widenAxis 20 = .ok (.ldc 25, 2) := by decide +kernel
theorem dX1_widenAxis_22 : decode cX1_widenAxis 22 = .ok (.fadd, 1) := by decide +kernel
theorem dX1_widenAxis_23 : decode cX1_widenAxis 23 = .ok (.fstore 4, 2) := by decide +kernel
theorem dX1_widenAxis_25 : decode cX1_widenAxis 25 = .ok (.aload_n 0, 1) := by decide +kernel
theorem dX1_widenAxis_26 : decode cX1_widenAxis 26 = .ok (.getfield 11, 3) := by decide +kernel
theorem dX1_widenAxis_29 : decode cX1_widenAxis 29 = .ok (.iconst 0, 1) := by decide +kernel
theorem dX1_widenAxis_30 : decode cX1_widenAxis 30 = .ok (.iload_n 1, 1) := by decide +kernel
theorem dX1_widenAxis_31 : decode cX1_widenAxis 31 = .ok (.iadd, 1) := by decide +kernel
theorem dX1_widenAxis_32 : decode cX1_widenAxis 32 = .ok (.fload_n 2, 1) := by decide +kernel
theorem dX1_widenAxis_33 : decode cX1_widenAxis 33 = .ok (.fconst 0, 1) := by decide +kernel
theorem dX1_widenAxis_34 : decode cX1_widenAxis 34 = .ok (.fcmp .g, 1) := by decide +kernel
theorem dX1_widenAxis_35 : decode cX1_widenAxis 35 = .ok (.ifCond .ge 11, 3) := by decide +kernel
theorem dX1_widenAxis_38 : decode cX1_widenAxis 38 = .ok (.fload_n 3, 1) := by decide +kernel
theorem dX1_widenAxis_39 : decode cX1_widenAxis 39 = .ok (.fload_n 2, 1) := by decide +kernel
theorem dX1_widenAxis_40 : decode cX1_widenAxis 40 = .ok (.fconst 2, 1) := by decide +kernel
theorem dX1_widenAxis_41 : decode cX1_widenAxis 41 = .ok (.fmul, 1) := by decide +kernel
theorem dX1_widenAxis_42 : decode cX1_widenAxis 42 = .ok (.fadd, 1) := by decide +kernel
theorem dX1_widenAxis_43 : decode cX1_widenAxis 43 = .ok (.goto 4, 3) := by decide +kernel
theorem dX1_widenAxis_46 : decode cX1_widenAxis 46 = .ok (.fload_n 3, 1) := by decide +kernel
theorem dX1_widenAxis_47 : decode cX1_widenAxis 47 = .ok (.fastore, 1) := by decide +kernel
theorem dX1_widenAxis_48 : decode cX1_widenAxis 48 = .ok (.aload_n 0, 1) := by decide +kernel
theorem dX1_widenAxis_49 : decode cX1_widenAxis 49 = .ok (.getfield 11, 3) := by decide +kernel
theorem dX1_widenAxis_52 : decode cX1_widenAxis 52 = .ok (.iconst 3, 1) := by decide +kernel
theorem dX1_widenAxis_53 : decode cX1_widenAxis 53 = .ok (.iload_n 1, 1) := by decide +kernel
theorem dX1_widenAxis_54 : decode cX1_widenAxis 54 = .ok (.iadd, 1) := by decide +kernel
theorem dX1_widenAxis_55 : decode cX1_widenAxis 55 = .ok (.fload_n 2, 1) := by decide +kernel
theorem dX1_widenAxis_56 : decode cX1_widenAxis 56 = .ok (.fconst 0, 1) := by decide +kernel
theorem dX1_widenAxis_57 : decode cX1_widenAxis 57 = .ok (.fcmp .g, 1) := by decide +kernel
theorem dX1_widenAxis_58 : decode cX1_widenAxis 58 = .ok (.ifCond .ge 8, 3) := by decide +kernel
theorem dX1_widenAxis_61 : decode cX1_widenAxis 61 = .ok (.fload 4, 2) := by decide +kernel
theorem dX1_widenAxis_63 : decode cX1_widenAxis 63 = .ok (.goto 9, 3) := by decide +kernel
theorem dX1_widenAxis_66 : decode cX1_widenAxis 66 = .ok (.fload 4, 2) := by decide +kernel
theorem dX1_widenAxis_68 : decode cX1_widenAxis 68 = .ok (.fload_n 2, 1) := by decide +kernel
theorem dX1_widenAxis_69 : decode cX1_widenAxis 69 = .ok (.fconst 2, 1) := by decide +kernel
theorem dX1_widenAxis_70 : decode cX1_widenAxis 70 = .ok (.fmul, 1) := by decide +kernel
theorem dX1_widenAxis_71 : decode cX1_widenAxis 71 = .ok (.fadd, 1) := by decide +kernel
theorem dX1_widenAxis_72 : decode cX1_widenAxis 72 = .ok (.fastore, 1) := by decide +kernel
theorem dX1_widenAxis_73 : decode cX1_widenAxis 73 = .ok (.return_, 1) := by decide +kernel
theorem dX1_isBox_0 : decode cX1_isBox 0 = .ok (.iconst 0, 1) := by decide +kernel
theorem dX1_isBox_1 : decode cX1_isBox 1 = .ok (.istore_n 1, 1) := by decide +kernel
theorem dX1_isBox_2 : decode cX1_isBox 2 = .ok (.iload_n 1, 1) := by decide +kernel
theorem dX1_isBox_3 : decode cX1_isBox 3 = .ok (.iconst 3, 1) := by decide +kernel
theorem dX1_isBox_4 : decode cX1_isBox 4 = .ok (.if_icmp .ge 31, 3) := by decide +kernel
theorem dX1_isBox_7 : decode cX1_isBox 7 = .ok (.aload_n 0, 1) := by decide +kernel
theorem dX1_isBox_8 : decode cX1_isBox 8 = .ok (.getfield 11, 3) := by decide +kernel
theorem dX1_isBox_11 : decode cX1_isBox 11 = .ok (.iconst 0, 1) := by decide +kernel
theorem dX1_isBox_12 : decode cX1_isBox 12 = .ok (.iload_n 1, 1) := by decide +kernel
theorem dX1_isBox_13 : decode cX1_isBox 13 = .ok (.iadd, 1) := by decide +kernel
theorem dX1_isBox_14 : decode cX1_isBox 14 = .ok (.faload, 1) := by decide +kernel
theorem dX1_isBox_15 : decode cX1_isBox 15 = .ok (.aload_n 0, 1) := by decide +kernel
theorem dX1_isBox_16 : decode cX1_isBox 16 = .ok (.getfield 11, 3) := by decide +kernel
theorem dX1_isBox_19 : decode cX1_isBox 19 = .ok (.iconst 3, 1) := by decide +kernel
theorem dX1_isBox_20 : decode cX1_isBox 20 = .ok (.iload_n 1, 1) := by decide +kernel
theorem dX1_isBox_21 : decode cX1_isBox 21 = .ok (.iadd, 1) := by decide +kernel
theorem dX1_isBox_22 : decode cX1_isBox 22 = .ok (.faload, 1) := by decide +kernel
theorem dX1_isBox_23 : decode cX1_isBox 23 = .ok (.fcmp .l, 1) := by decide +kernel
theorem dX1_isBox_24 : decode cX1_isBox 24 = .ok (.ifCond .le 5, 3) := by decide +kernel
theorem dX1_isBox_27 : decode cX1_isBox 27 = .ok (.iconst 0, 1) := by decide +kernel
theorem dX1_isBox_28 : decode cX1_isBox 28 = .ok (.ireturn, 1) := by decide +kernel
theorem dX1_isBox_29 : decode cX1_isBox 29 = .ok (.iinc 1 1, 3) := by decide +kernel
theorem dX1_isBox_32 : decode cX1_isBox 32 = .ok (.goto (-30), 3) := by decide +kernel
theorem dX1_isBox_35 : decode cX1_isBox 35 = .ok (.iconst 1, 1) := by decide +kernel
theorem dX1_isBox_36 : decode cX1_isBox 36 = .ok (.ireturn, 1) := by decide +kernel
theorem dX1_isGood_0 : decode cX1_isGood 0 = .ok (.iconst 0, 1) := by decide +kernel
theorem dX1_isGood_1 : decode cX1_isGood 1 = .ok (.istore_n 1, 1) := by decide +kernel
theorem dX1_isGood_2 : decode cX1_isGood 2 = .ok (.iload_n 1, 1) := by decide +kernel
theorem dX1_isGood_3 : decode cX1_isGood 3 = .ok (.bipush 6, 2) := by decide +kernel
theorem dX1_isGood_5 : decode cX1_isGood 5 = .ok (.if_icmp .ge 26, 3) := by decide +kernel
theorem dX1_isGood_8 : decode cX1_isGood 8 = .ok (.aload_n 0, 1) := by decide +kernel
theorem dX1_isGood_9 : decode cX1_isGood 9 = .ok (.getfield 11, 3) := by decide +kernel
theorem dX1_isGood_12 : decode cX1_isGood 12 = .ok (.iload_n 1, 1) := by decide +kernel
theorem dX1_isGood_13 : decode cX1_isGood 13 = .ok (.faload, 1) := by decide +kernel
theorem dX1_isGood_14 : decode cX1_isGood 14 = .ok (.sipush 16384, 3) := by decide +kernel
theorem dX1_isGood_17 : decode cX1_isGood 17 = .ok (.invokestatic 26, 3) := by decide +kernel
theorem dX1_isGood_20 : decode cX1_isGood 20 = .ok (.ifCond .ne 5, 3) := by decide +kernel
theorem dX1_isGood_23 : decode cX1_isGood 23 = .ok (.iconst 0, 1) := by decide +kernel
theorem dX1_isGood_24 : decode cX1_isGood 24 = .ok (.ireturn, 1) := by decide +kernel
theorem dX1_isGood_25 : decode cX1_isGood 25 = .ok (.iinc 1 1, 3) := by decide +kernel
theorem dX1_isGood_28 : decode cX1_isGood 28 = .ok (.goto (-26), 3) := by decide +kernel
theorem dX1_isGood_31 : decode cX1_isGood 31 = .ok (.iconst 1, 1) := by decide +kernel
theorem dX1_isGood_32 : decode cX1_isGood 32 = .ok (.ireturn, 1) := by decide +kernel
theorem dX1_overlaps_0 : decode cX1_overlaps 0 = .ok (.iconst 0, 1) := by decide +kernel
theorem dX1_overlaps_1 : decode cX1_overlaps 1 = .ok (.istore_n 2, 1) := by decide +kernel
theorem dX1_overlaps_2 : decode cX1_overlaps 2 = .ok (.iload_n 2, 1) := by decide +kernel
theorem dX1_overlaps_3 : decode cX1_overlaps 3 = .ok (.iconst 3, 1) := by decide +kernel
theorem dX1_overlaps_4 : decode cX1_overlaps 4 = .ok (.if_icmp .ge 51, 3) := by decide +kernel
theorem dX1_overlaps_7 : decode cX1_overlaps 7 = .ok (.aload_n 0, 1) := by decide +kernel
theorem dX1_overlaps_8 : decode cX1_overlaps 8 = .ok (.getfield 11, 3) := by decide +kernel
theorem dX1_overlaps_11 : decode cX1_overlaps 11 = .ok (.iconst 0, 1) := by decide +kernel
theorem dX1_overlaps_12 : decode cX1_overlaps 12 = .ok (.iload_n 2, 1) := by decide +kernel
theorem dX1_overlaps_13 : decode cX1_overlaps 13 = .ok (.iadd, 1) := by decide +kernel
theorem dX1_overlaps_14 : decode cX1_overlaps 14 = .ok (.faload, 1) := by decide +kernel
theorem dX1_overlaps_15 : decode cX1_overlaps 15 = .ok (.aload_n 1, 1) := by decide +kernel
theorem dX1_overlaps_16 : decode cX1_overlaps 16 = .ok (.getfield 11, 3) := by decide +kernel
theorem dX1_overlaps_19 : decode cX1_overlaps 19 = .ok (.iconst 3, 1) := by decide +kernel
theorem dX1_overlaps_20 : decode cX1_overlaps 20 = .ok (.iload_n 2, 1) := by decide +kernel
theorem dX1_overlaps_21 : decode cX1_overlaps 21 = .ok (.iadd, 1) := by decide +kernel
theorem dX1_overlaps_22 : decode cX1_overlaps 22 = .ok (.faload, 1) := by decide +kernel
theorem dX1_overlaps_23 : decode cX1_overlaps 23 = .ok (.fcmp .l, 1) := by decide +kernel
theorem dX1_overlaps_24 : decode cX1_overlaps 24 = .ok (.ifCond .gt 23, 3) := by decide +kernel
theorem dX1_overlaps_27 : decode cX1_overlaps 27 = .ok (.aload_n 1, 1) := by decide +kernel
theorem dX1_overlaps_28 : decode cX1_overlaps 28 = .ok (.getfield 11, 3) := by decide +kernel
theorem dX1_overlaps_31 : decode cX1_overlaps 31 = .ok (.iconst 0, 1) := by decide +kernel
theorem dX1_overlaps_32 : decode cX1_overlaps 32 = .ok (.iload_n 2, 1) := by decide +kernel
theorem dX1_overlaps_33 : decode cX1_overlaps 33 = .ok (.iadd, 1) := by decide +kernel
theorem dX1_overlaps_34 : decode cX1_overlaps 34 = .ok (.faload, 1) := by decide +kernel
theorem dX1_overlaps_35 : decode cX1_overlaps 35 = .ok (.aload_n 0, 1) := by decide +kernel
theorem dX1_overlaps_36 : decode cX1_overlaps 36 = .ok (.getfield 11, 3) := by decide +kernel
theorem dX1_overlaps_39 : decode cX1_overlaps 39 = .ok (.iconst 3, 1) := by decide +kernel
theorem dX1_overlaps_40 : decode cX1_overlaps 40 = .ok (.iload_n 2, 1) := by decide +kernel
theorem dX1_overlaps_41 : decode cX1_overlaps 41 = .ok (.iadd, 1) := by decide +kernel
theorem dX1_overlaps_42 : decode cX1_overlaps 42 = .ok (.faload, 1) := by decide +kernel
theorem dX1_overlaps_43 : decode cX1_overlaps 43 = .ok (.fcmp .l, 1) := by decide +kernel
theorem dX1_overlaps_44 : decode cX1_overlaps 44 = .ok (.ifCond .le 5, 3) := by decide +kernel
theorem dX1_overlaps_47 : decode cX1_overlaps 47 = .ok (.iconst 0, 1) := by decide +kernel
theorem dX1_overlaps_48 : decode cX1_overlaps 48 = .ok (.ireturn, 1) := by decide +kernel
theorem dX1_overlaps_49 : decode cX1_overlaps 49 = .ok (.iinc 2 1, 3) := by decide +kernel
theorem dX1_overlaps_52 : decode cX1_overlaps 52 = .ok (.goto (-50), 3) := by decide +kernel
theorem dX1_overlaps_55 : decode cX1_overlaps 55 = .ok (.iconst 1, 1) := by decide +kernel
theorem dX1_overlaps_56 : decode cX1_overlaps 56 = .ok (.ireturn, 1) := by decide +kernel
theorem dX1_liesIn_0 : decode cX1_liesIn 0 = .ok (.iconst 0, 1) := by decide +kernel
theorem dX1_liesIn_1 : decode cX1_liesIn 1 = .ok (.istore_n 2, 1) := by decide +kernel
theorem dX1_liesIn_2 : decode cX1_liesIn 2 = .ok (.iload_n 2, 1) := by decide +kernel
theorem dX1_liesIn_3 : decode cX1_liesIn 3 = .ok (.iconst 3, 1) := by decide +kernel
theorem dX1_liesIn_4 : decode cX1_liesIn 4 = .ok (.if_icmp .ge 51, 3) := by decide +kernel
theorem dX1_liesIn_7 : decode cX1_liesIn 7 = .ok (.aload_n 0, 1) := by decide +kernel
theorem dX1_liesIn_8 : decode cX1_liesIn 8 = .ok (.getfield 11, 3) := by decide +kernel
theorem dX1_liesIn_11 : decode cX1_liesIn 11 = .ok (.iconst 0, 1) := by decide +kernel
theorem dX1_liesIn_12 : decode cX1_liesIn 12 = .ok (.iload_n 2, 1) := by decide +kernel
theorem dX1_liesIn_13 : decode cX1_liesIn 13 = .ok (.iadd, 1) := by decide +kernel
theorem dX1_liesIn_14 : decode cX1_liesIn 14 = .ok (.faload, 1) := by decide +kernel
theorem dX1_liesIn_15 : decode cX1_liesIn 15 = .ok (.aload_n 1, 1) := by decide +kernel
theorem dX1_liesIn_16 : decode cX1_liesIn 16 = .ok (.getfield 11, 3) := by decide +kernel
theorem dX1_liesIn_19 : decode cX1_liesIn 19 = .ok (.iconst 0, 1) := by decide +kernel
theorem dX1_liesIn_20 : decode cX1_liesIn 20 = .ok (.iload_n 2, 1) := by decide +kernel
theorem dX1_liesIn_21 : decode cX1_liesIn 21 = .ok (.iadd, 1) := by decide +kernel
theorem dX1_liesIn_22 : decode cX1_liesIn 22 = .ok (.faload, 1) := by decide +kernel
theorem dX1_liesIn_23 : decode cX1_liesIn 23 = .ok (.fcmp .g, 1) := by decide +kernel
theorem dX1_liesIn_24 : decode cX1_liesIn 24 = .ok (.ifCond .lt 23, 3) := by decide +kernel
theorem dX1_liesIn_27 : decode cX1_liesIn 27 = .ok (.aload_n 0, 1) := by decide +kernel
theorem dX1_liesIn_28 : decode cX1_liesIn 28 = .ok (.getfield 11, 3) := by decide +kernel
theorem dX1_liesIn_31 : decode cX1_liesIn 31 = .ok (.iconst 3, 1) := by decide +kernel
theorem dX1_liesIn_32 : decode cX1_liesIn 32 = .ok (.iload_n 2, 1) := by decide +kernel
theorem dX1_liesIn_33 : decode cX1_liesIn 33 = .ok (.iadd, 1) := by decide +kernel
theorem dX1_liesIn_34 : decode cX1_liesIn 34 = .ok (.faload, 1) := by decide +kernel
theorem dX1_liesIn_35 : decode cX1_liesIn 35 = .ok (.aload_n 1, 1) := by decide +kernel
theorem dX1_liesIn_36 : decode cX1_liesIn 36 = .ok (.getfield 11, 3) := by decide +kernel
theorem dX1_liesIn_39 : decode cX1_liesIn 39 = .ok (.iconst 3, 1) := by decide +kernel
theorem dX1_liesIn_40 : decode cX1_liesIn 40 = .ok (.iload_n 2, 1) := by decide +kernel
theorem dX1_liesIn_41 : decode cX1_liesIn 41 = .ok (.iadd, 1) := by decide +kernel
theorem dX1_liesIn_42 : decode cX1_liesIn 42 = .ok (.faload, 1) := by decide +kernel
theorem dX1_liesIn_43 : decode cX1_liesIn 43 = .ok (.fcmp .l, 1) := by decide +kernel
theorem dX1_liesIn_44 : decode cX1_liesIn 44 = .ok (.ifCond .le 5, 3) := by decide +kernel
theorem dX1_liesIn_47 : decode cX1_liesIn 47 = .ok (.iconst 0, 1) := by decide +kernel
theorem dX1_liesIn_48 : decode cX1_liesIn 48 = .ok (.ireturn, 1) := by decide +kernel
theorem dX1_liesIn_49 : decode cX1_liesIn 49 = .ok (.iinc 2 1, 3) := by decide +kernel
theorem dX1_liesIn_52 : decode cX1_liesIn 52 = .ok (.goto (-50), 3) := by decide +kernel
theorem dX1_liesIn_55 : decode cX1_liesIn 55 = .ok (.iconst 1, 1) := by decide +kernel
theorem dX1_liesIn_56 : decode cX1_liesIn 56 = .ok (.ireturn, 1) := by decide +kernel
theorem dX1_enterOfLine_0 : decode cX1_enterOfLine 0 = .ok (.fconst 0, 1) := by decide +kernel
theorem dX1_enterOfLine_1 : decode cX1_enterOfLine 1 = .ok (.fstore_n 2, 1) := by decide +kernel
theorem dX1_enterOfLine_2 : decode cX1_enterOfLine 2 = .ok (.fconst 1, 1) := by decide +kernel
theorem dX1_enterOfLine_3 : decode cX1_enterOfLine 3 = .ok (.fstore_n 3, 1) := by decide +kernel
theorem dX1_enterOfLine_4 : decode cX1_enterOfLine 4 = .ok (.iconst 0, 1) := by decide +kernel
theorem dX1_enterOfLine_5 : decode cX1_enterOfLine 5 = .ok (.istore 4, 2) := by decide +kernel
theorem dX1_enterOfLine_7 : decode cX1_enterOfLine 7 = .ok (.iload 4, 2) := by decide +kernel
theorem dX1_enterOfLine_9 : decode cX1_enterOfLine 9 = .ok (.iconst 3, 1) := by decide +kernel
theorem dX1_enterOfLine_10 : decode cX1_enterOfLine 10 = .ok (.if_icmp .ge 170, 3) := by decide +kernel
theorem dX1_enterOfLine_13 : decode cX1_enterOfLine 13 = .ok (.aload_n 1, 1) := by decide +kernel
theorem dX1_enterOfLine_14 : decode cX1_enterOfLine 14 = .ok (.getfield 11, 3) := by decide +kernel
theorem dX1_enterOfLine_17 : decode cX1_enterOfLine 17 = .ok (.iconst 0, 1) := by decide +kernel
theorem dX1_enterOfLine_18 : decode cX1_enterOfLine 18 = .ok (.iload 4, 2) := by decide +kernel
theorem dX1_enterOfLine_20 : decode cX1_enterOfLine 20 = .ok (.iadd, 1) := by decide +kernel
theorem dX1_enterOfLine_21 : decode cX1_enterOfLine 21 = .ok (.faload, 1) := by decide +kernel
theorem dX1_enterOfLine_22 : decode cX1_enterOfLine 22 = .ok (.fstore 5, 2) := by decide +kernel
theorem dX1_enterOfLine_24 : decode cX1_enterOfLine 24 = .ok (.aload_n 1, 1) := by decide +kernel
theorem dX1_enterOfLine_25 : decode cX1_enterOfLine 25 = .ok (.getfield 11, 3) := by decide +kernel
theorem dX1_enterOfLine_28 : decode cX1_enterOfLine 28 = .ok (.iconst 3, 1) := by decide +kernel
theorem dX1_enterOfLine_29 : decode cX1_enterOfLine 29 = .ok (.iload 4, 2) := by decide +kernel
theorem dX1_enterOfLine_31 : decode cX1_enterOfLine 31 = .ok (.iadd, 1) := by decide +kernel
theorem dX1_enterOfLine_32 : decode cX1_enterOfLine 32 = .ok (.faload, 1) := by decide +kernel
theorem dX1_enterOfLine_33 : decode cX1_enterOfLine 33 = .ok (.fload 5, 2) := by decide +kernel
theorem dX1_enterOfLine_35 : decode cX1_enterOfLine 35 = .ok (.fsub, 1) := by decide +kernel
theorem dX1_enterOfLine_36 : decode cX1_enterOfLine 36 = .ok (.fstore 6, 2) := by decide +kernel
theorem dX1_enterOfLine_38 : decode cX1_enterOfLine 38 = .ok (.fload 6, 2) := by decide +kernel
theorem dX1_enterOfLine_40 : decode cX1_enterOfLine 40 = .ok (.fconst 0, 1) := by decide +kernel
theorem dX1_enterOfLine_41 : decode cX1_enterOfLine 41 = .ok (.fcmp .l, 1) := by decide +kernel
theorem dX1_enterOfLine_42 : decode cX1_enterOfLine 42 = .ok (.ifCond .ne 36, 3) := by decide +kernel
theorem dX1_enterOfLine_45 : decode cX1_enterOfLine 45 = .ok (.fload 5, 2) := by decide +kernel
theorem dX1_enterOfLine_47 : decode cX1_enterOfLine 47 = .ok (.aload_n 0, 1) := by decide +kernel
theorem dX1_enterOfLine_48 : decode cX1_enterOfLine 48 = .ok (.getfield 11, 3) := by decide +kernel
theorem dX1_enterOfLine_51 : decode cX1_enterOfLine 51 = .ok (.iconst 0, 1) := by decide +kernel
theorem dX1_enterOfLine_52 : decode cX1_enterOfLine 52 = .ok (.iload 4, 2) := by decide +kernel
theorem dX1_enterOfLine_54 : decode cX1_enterOfLine 54 = .ok (.iadd, 1) := by decide +kernel
theorem dX1_enterOfLine_55 : decode cX1_enterOfLine 55 = .ok (.faload, 1) := by decide +kernel
theorem dX1_enterOfLine_56 : decode cX1_enterOfLine 56 = .ok (.fcmp .g, 1) := by decide +kernel
theorem dX1_enterOfLine_57 : decode cX1_enterOfLine 57 = .ok (.ifCond .lt 18, 3) := by decide +kernel
theorem dX1_enterOfLine_60 : decode cX1_enterOfLine 60 = .ok (.fload 5, 2) := by decide +kernel
theorem dX1_enterOfLine_62 : decode cX1_enterOfLine 62 = .ok (.aload_n 0, 1) := by decide +kernel
theorem dX1_enterOfLine_63 : decode cX1_enterOfLine 63 = .ok (.getfield 11, 3) := by decide +kernel
theorem dX1_enterOfLine_66 : decode cX1_enterOfLine 66 = .ok (.iconst 3, 1) := by decide +kernel
theorem dX1_enterOfLine_67 : decode cX1_enterOfLine 67 = .ok (.iload 4, 2) := by decide +kernel
theorem dX1_enterOfLine_69 : decode cX1_enterOfLine 69 = .ok (.iadd, 1) := by decide +kernel
theorem dX1_enterOfLine_70 : decode cX1_enterOfLine 70 = .ok (.faload, 1) := by decide +kernel
theorem dX1_enterOfLine_71 : decode cX1_enterOfLine 71 = .ok (.fcmp .l, 1) := by decide +kernel
theorem dX1_enterOfLine_72 : decode cX1_enterOfLine 72 = .ok (.ifCond .le 102, 3) := by decide +kernel
theorem dX1_enterOfLine_75 : decode cX1_enterOfLine 75 = .ok (.ldc 30, 2) := by decide +kernel
theorem dX1_enterOfLine_77 : decode cX1_enterOfLine 77 = .ok (.freturn, 1) := by decide +kernel
theorem dX1_enterOfLine_78 : decode cX1_enterOfLine 78 = .ok (.aload_n 0, 1) := by decide +kernel
theorem dX1_enterOfLine_79 : decode cX1_enterOfLine 79 = .ok (.getfield 11, 3) := by decide +kernel
theorem dX1_enterOfLine_82 : decode cX1_enterOfLine 82 = .ok (.iconst 0, 1) := by decide +kernel
theorem dX1_enterOfLine_83 : decode cX1_enterOfLine 83 = .ok (.iload 4, 2) := by decide +kernel
theorem dX1_enterOfLine_85 : decode cX1_enterOfLine 85 = .ok (.iadd, 1) := by decide +kernel
theorem dX1_enterOfLine_86 : decode cX1_enterOfLine 86 = .ok (.faload, 1) := by decide +kernel
theorem dX1_enterOfLine_87 : decode cX1_enterOfLine 87 = .ok (.fload 5, 2) := by decide +kernel
theorem dX1_enterOfLine_89 : decode cX1_enterOfLine 89 = .ok (.fsub, 1) := by decide +kernel
theorem dX1_enterOfLine_90 : decode cX1_enterOfLine 90 = .ok (.fload 6, 2) := by decide +kernel
theorem dX1_enterOfLine_92 : decode cX1_enterOfLine 92 = .ok (.fdiv, 1) := by decide +kernel
theorem dX1_enterOfLine_93 : decode cX1_enterOfLine 93 = .ok (.fstore 7, 2) := by decide +kernel
theorem dX1_enterOfLine_95 : decode cX1_enterOfLine 95 = .ok (.aload_n 0, 1) := by decide +kernel
theorem dX1_enterOfLine_96 : decode cX1_enterOfLine 96 = .ok (.getfield 11, 3) := by decide +kernel
theorem dX1_enterOfLine_99 : decode cX1_enterOfLine 99 = .ok (.iconst 3, 1) := by decide +kernel
theorem dX1_enterOfLine_100 : decode cX1_enterOfLine 100 = .ok (.iload 4, 2) := by decide +kernel
theorem dX1_enterOfLine_102 : decode cX1_enterOfLine 102 = .ok (.iadd, 1) := by decide +kernel
theorem dX1_enterOfLine_103 : decode cX1_enterOfLine 103 = .ok (.faload, 1) := by decide +kernel
theorem dX1_enterOfLine_104 : decode cX1_enterOfLine 104 = .ok (.fload 5, 2) := by decide +kernel
theorem dX1_enterOfLine_106 : decode cX1_enterOfLine 106 = .ok (.fsub, 1) := by decide +kernel
theorem dX1_enterOfLine_107 : decode cX1_enterOfLine 107 = .ok (.fload 6, 2) := by decide +kernel
theorem dX1_enterOfLine_109 : decode cX1_enterOfLine 109 = .ok (.fdiv, 1) := by decide +kernel
theorem dX1_enterOfLine_110 : decode cX1_enterOfLine 110 = .ok (.fstore 8, 2) := by decide +kernel
theorem dX1_enterOfLine_112 : decode cX1_enterOfLine 112 = .ok (.fload 7, 2) := by decide +kernel
theorem dX1_enterOfLine_114 : decode cX1_enterOfLine 114 = .ok (.fload 8, 2) := by decide +kernel
theorem dX1_enterOfLine_116 : decode cX1_enterOfLine 116 = .ok (.fcmp .l, 1) := by decide +kernel
theorem dX1_enterOfLine_117 : decode cX1_enterOfLine 117 = .ok (.ifCond .le 8, 3) := by decide +kernel
theorem dX1_enterOfLine_120 : decode cX1_enterOfLine 120 = .ok (.fload 8, 2) := by decide +kernel
theorem dX1_enterOfLine_122 : decode cX1_enterOfLine 122 = .ok (.goto 5, 3) := by decide +kernel
theorem dX1_enterOfLine_125 : decode cX1_enterOfLine 125 = .ok (.fload 7, 2) := by decide +kernel
theorem dX1_enterOfLine_127 : decode cX1_enterOfLine 127 = .ok (.fstore 9, 2) := by decide +kernel
theorem dX1_enterOfLine_129 : decode cX1_enterOfLine 129 = .ok (.fload 7, 2) := by decide +kernel
theorem dX1_enterOfLine_131 : decode cX1_enterOfLine 131 = .ok (.fload 8, 2) := by decide +kernel
theorem dX1_enterOfLine_133 : decode cX1_enterOfLine 133 = .ok (.fcmp .l, 1) := by decide +kernel
theorem dX1_enterOfLine_134 : decode cX1_enterOfLine 134 = .ok (.ifCond .le 8, 3) := by decide +kernel
theorem dX1_enterOfLine_137 : decode cX1_enterOfLine 137 = .ok (.fload 7, 2) := by decide +kernel
theorem dX1_enterOfLine_139 : decode cX1_enterOfLine 139 = .ok (.goto 5, 3) := by decide +kernel
theorem dX1_enterOfLine_142 : decode cX1_enterOfLine 142 = .ok (.fload 8, 2) := by decide +kernel
theorem dX1_enterOfLine_144 : decode cX1_enterOfLine 144 = .ok (.fstore 10, 2) := by decide +kernel
theorem dX1_enterOfLine_146 : decode cX1_enterOfLine 146 = .ok (.fload 9, 2) := by decide +kernel
theorem dX1_enterOfLine_148 : decode cX1_enterOfLine 148 = .ok (.fload_n 2, 1) := by decide +kernel
theorem dX1_enterOfLine_149 : decode cX1_enterOfLine 149 = .ok (.fcmp .l, 1) := by decide +kernel
theorem dX1_enterOfLine_150 : decode cX1_enterOfLine 150 = .ok (.ifCond .le 8, 3) := by decide +kernel
theorem dX1_enterOfLine_153 : decode cX1_enterOfLine 153 = .ok (.fload 9, 2) := by decide +kernel
theorem dX1_enterOfLine_155 : decode cX1_enterOfLine 155 = .ok (.goto 4, 3) := by decide +kernel
theorem dX1_enterOfLine_158 : decode cX1_enterOfLine 158 = .ok (.fload_n 2, 1) := by decide +kernel
theorem dX1_enterOfLine_159 : decode cX1_enterOfLine 159 = .ok (.fstore_n 2, 1) := by decide +kernel
theorem dX1_enterOfLine_160 : decode cX1_enterOfLine 160 = .ok (.fload 10, 2) := by decide +kernel
theorem dX1_enterOfLine_162 : decode cX1_enterOfLine 162 = .ok (.fload_n 3, 1) := by decide +kernel
theorem dX1_enterOfLine_163 : decode cX1_enterOfLine 163 = .ok (.fcmp .g, 1) := by decide +kernel
theorem dX1_enterOfLine_164 : decode cX1_enterOfLine 164 = .ok (.ifCond .ge 8, 3) := by decide +kernel
theorem dX1_enterOfLine_167 : decode cX1_enterOfLine 167 = .ok (.fload 10, 2) := by decide +kernel
theorem dX1_enterOfLine_169 : decode cX1_enterOfLine 169 = .ok (.goto 4, 3) := by decide +kernel
theorem dX1_enterOfLine_172 : decode cX1_enterOfLine 172 = .ok (.fload_n 3, 1) := by decide +kernel
theorem dX1_enterOfLine_173 : decode cX1_enterOfLine 173 = .ok (.fstore_n 3, 1) := by decide +kernel
theorem dX1_enterOfLine_174 : decode cX1_enterOfLine 174 = .ok (.iinc 4 1, 3) := by decide +kernel
theorem dX1_enterOfLine_177 : decode cX1_enterOfLine 177 = .ok (.goto (-170), 3) := by decide +kernel
theorem dX1_enterOfLine_180 : decode cX1_enterOfLine 180 = .ok (.fload_n 2, 1) := by decide +kernel
theorem dX1_enterOfLine_181 : decode cX1_enterOfLine 181 = .ok (.fload_n 3, 1) := by decide +kernel
theorem dX1_enterOfLine_182 : decode cX1_enterOfLine 182 = .ok (.fcmp .l, 1) := by decide +kernel
theorem dX1_enterOfLine_183 : decode cX1_enterOfLine 183 = .ok (.ifCond .le 8, 3) := by decide +kernel
theorem dX1_enterOfLine_186 : decode cX1_enterOfLine 186 = .ok (.ldc 30, 2) := by decide +kernel
theorem dX1_enterOfLine_188 : decode cX1_enterOfLine 188 = .ok (.goto 4, 3) := by decide +kernel
theorem dX1_enterOfLine_191 : decode cX1_enterOfLine 191 = .ok (.fload_n 2, 1) := by decide +kernel
theorem dX1_enterOfLine_192 : decode cX1_enterOfLine 192 = .ok (.freturn, 1) := by decide +kernel
theorem dX2_init_0 : decode cX2_init 0 = .ok (.aload_n 0, 1) := by decide +kernel
theorem dX2_init_1 : decode cX2_init 1 = .ok (.invokespecial 5, 3) := by decide +kernel
theorem dX2_init_4 : decode cX2_init 4 = .ok (.aload_n 0, 1) := by decide +kernel
theorem dX2_init_5 : decode cX2_init 5 = .ok (.sipush 4096, 3) := by decide +kernel
theorem dX2_init_8 : decode cX2_init 8 = .ok (.newarray .long, 2) := by decide +kernel
theorem dX2_init_10 : decode cX2_init 10 = .ok (.putfield 11, 3) := by decide +kernel
theorem dX2_init_13 : decode cX2_init 13 = .ok (.return_, 1) := by decide +kernel
theorem dX2_holds_0 : decode cX2_holds 0 = .ok (.aload_n 0, 1) := by decide +kernel
theorem dX2_holds_1 : decode cX2_holds 1 = .ok (.getfield 11, 3) := by decide +kernel
theorem dX2_holds_4 : decode cX2_holds 4 = .ok (.iload_n 1, 1) := by decide +kernel
theorem dX2_holds_5 : decode cX2_holds 5 = .ok (.bipush 64, 2) := by decide +kernel
theorem dX2_holds_7 : decode cX2_holds 7 = .ok (.idiv, 1) := by decide +kernel
theorem dX2_holds_8 : decode cX2_holds 8 = .ok (.laload, 1) := by decide +kernel
theorem dX2_holds_9 : decode cX2_holds 9 = .ok (.iload_n 1, 1) := by decide +kernel
theorem dX2_holds_10 : decode cX2_holds 10 = .ok (.bipush 64, 2) := by decide +kernel
theorem dX2_holds_12 : decode cX2_holds 12 = .ok (.irem, 1) := by decide +kernel
theorem dX2_holds_13 : decode cX2_holds 13 = .ok (.lushr, 1) := by decide +kernel
theorem dX2_holds_14 : decode cX2_holds 14 = .ok (.lconst 1, 1) := by decide +kernel
theorem dX2_holds_15 : decode cX2_holds 15 = .ok (.land, 1) := by decide +kernel
theorem dX2_holds_16 : decode cX2_holds 16 = .ok (.lconst 0, 1) := by decide +kernel
theorem dX2_holds_17 : decode cX2_holds 17 = .ok (.lcmp, 1) := by decide +kernel
theorem dX2_holds_18 : decode cX2_holds 18 = .ok (.ifCond .eq 7, 3) := by decide +kernel
theorem dX2_holds_21 : decode cX2_holds 21 = .ok (.iconst 1, 1) := by decide +kernel
theorem dX2_holds_22 : decode cX2_holds 22 = .ok (.goto 4, 3) := by decide +kernel
theorem dX2_holds_25 : decode cX2_holds 25 = .ok (.iconst 0, 1) := by decide +kernel
theorem dX2_holds_26 : decode cX2_holds 26 = .ok (.ireturn, 1) := by decide +kernel
theorem dX2_put_0 : decode cX2_put 0 = .ok (.aload_n 0, 1) := by decide +kernel
theorem dX2_put_1 : decode cX2_put 1 = .ok (.iload_n 1, 1) := by decide +kernel
theorem dX2_put_2 : decode cX2_put 2 = .ok (.invokevirtual 15, 3) := by decide +kernel
theorem dX2_put_5 : decode cX2_put 5 = .ok (.iload_n 2, 1) := by decide +kernel
theorem dX2_put_6 : decode cX2_put 6 = .ok (.if_icmp .eq 39, 3) := by decide +kernel
theorem dX2_put_9 : decode cX2_put 9 = .ok (.aload_n 0, 1) := by decide +kernel
theorem dX2_put_10 : decode cX2_put 10 = .ok (.getfield 11, 3) := by decide +kernel
theorem dX2_put_13 : decode cX2_put 13 = .ok (.iload_n 1, 1) := by decide +kernel
theorem dX2_put_14 : decode cX2_put 14 = .ok (.bipush 64, 2) := by decide +kernel
theorem dX2_put_16 : decode cX2_put 16 = .ok (.idiv, 1) := by decide +kernel
theorem dX2_put_17 : decode cX2_put 17 = .ok (.dup2, 1) := by decide +kernel
theorem dX2_put_18 : decode cX2_put 18 = .ok (.laload, 1) := by decide +kernel
theorem dX2_put_19 : decode cX2_put 19 = .ok (.lconst 1, 1) := by decide +kernel
theorem dX2_put_20 : decode cX2_put 20 = .ok (.iload_n 1, 1) := by decide +kernel
theorem dX2_put_21 : decode cX2_put 21 = .ok (.bipush 64, 2) := by decide +kernel
theorem dX2_put_23 : decode cX2_put 23 = .ok (.irem, 1) := by decide +kernel
theorem dX2_put_24 : decode cX2_put 24 = .ok (.lshl, 1) := by decide +kernel
theorem dX2_put_25 : decode cX2_put 25 = .ok (.lxor, 1) := by decide +kernel
theorem dX2_put_26 : decode cX2_put 26 = .ok (.lastore, 1) := by decide +kernel
theorem dX2_put_27 : decode cX2_put 27 = .ok (.aload_n 0, 1) := by decide +kernel
theorem dX2_put_28 : decode cX2_put 28 = .ok (.dup, 1) := by decide +kernel
theorem dX2_put_29 : decode cX2_put 29 = .ok (.getfield 19, 3) := by decide +kernel
theorem dX2_put_32 : decode cX2_put 32 = .ok (.iload_n 2, 1) := by decide +kernel
theorem dX2_put_33 : decode cX2_put 33 = .ok (.ifCond .eq 7, 3) := by decide +kernel
theorem dX2_put_36 : decode cX2_put 36 = .ok (.iconst 1, 1) := by decide +kernel
theorem dX2_put_37 : decode cX2_put 37 = .ok (.goto 4, 3) := by decide +kernel
theorem dX2_put_40 : decode cX2_put 40 = .ok (.iconst (-1), 1) := by decide +kernel
theorem dX2_put_41 : decode cX2_put 41 = .ok (.iadd, 1) := by decide +kernel
theorem dX2_put_42 : decode cX2_put 42 = .ok (.putfield 19, 3) := by decide +kernel
theorem dX2_put_45 : decode cX2_put 45 = .ok (.return_, 1) := by decide +kernel
theorem dX2_copyFrom_0 : decode cX2_copyFrom 0 = .ok (.aload_n 1, 1) := by decide +kernel
theorem dX2_copyFrom_1 : decode cX2_copyFrom 1 = .ok (.getfield 11, 3) := by decide +kernel
theorem dX2_copyFrom_4 : decode cX2_copyFrom 4 = .ok (.iconst 0, 1) := by decide +kernel
theorem dX2_copyFrom_5 : decode cX2_copyFrom 5 = .ok (.aload_n 0, 1) := by decide +kernel
theorem dX2_copyFrom_6 : decode cX2_copyFrom 6 = .ok (.getfield 11, 3) := by decide +kernel
theorem dX2_copyFrom_9 : decode cX2_copyFrom 9 = .ok (.iconst 0, 1) := by decide +kernel
theorem dX2_copyFrom_10 : decode cX2_copyFrom 10 = .ok (.sipush 4096, 3) := by decide +kernel
theorem dX2_copyFrom_13 : decode cX2_copyFrom 13 = .ok (.invokestatic 23, 3) := by decide +kernel
theorem dX2_copyFrom_16 : decode cX2_copyFrom 16 = .ok (.aload_n 0, 1) := by decide +kernel
theorem dX2_copyFrom_17 : decode cX2_copyFrom 17 = .ok (.aload_n 1, 1) := by decide +kernel
theorem dX2_copyFrom_18 : decode cX2_copyFrom 18 = .ok (.getfield 19, 3) := by decide +kernel
theorem dX2_copyFrom_21 : decode cX2_copyFrom 21 = .ok (.putfield 19, 3) := by decide +kernel
theorem dX2_copyFrom_24 : decode cX2_copyFrom 24 = .ok (.return_, 1) := by decide +kernel
theorem dX2_setToDifference_0 : decode cX2_setToDifference 0 = .ok (.aload_n 0, 1) := by decide +kernel
theorem dX2_setToDifference_1 : decode cX2_setToDifference 1 = .ok (.iconst 0, 1) := by decide +kernel
theorem dX2_setToDifference_2 : decode cX2_setToDifference 2 = .ok (.putfield 19, 3) := by decide +kernel
theorem dX2_setToDifference_5 : decode cX2_setToDifference 5 = .ok (.iconst 0, 1) := by decide +kernel
theorem dX2_setToDifference_6 : decode cX2_setToDifference 6 = .ok (.istore_n 3, 1) := by decide +kernel
theorem dX2_setToDifference_7 : decode cX2_setToDifference 7 = .ok (.iload_n 3, 1) := by decide +kernel
theorem dX2_setToDifference_8 : decode cX2_setToDifference 8 = .ok (.sipush 4096, 3) := by decide +kernel
theorem dX2_setToDifference_11 : decode cX2_setToDifference 11 = .ok (.if_icmp .ge 50, 3) := by decide +kernel
theorem dX2_setToDifference_14 : decode cX2_setToDifference 14 = .ok (.aload_n 0, 1) := by decide +kernel
theorem dX2_setToDifference_15 : decode cX2_setToDifference 15 = .ok (.getfield 11, 3) := by decide +kernel
theorem dX2_setToDifference_18 : decode cX2_setToDifference 18 = .ok (.iload_n 3, 1) := by decide +kernel
theorem dX2_setToDifference_19 : decode cX2_setToDifference 19 = .ok (.aload_n 1, 1) := by decide +kernel
theorem dX2_setToDifference_20 : decode cX2_setToDifference 20 = .ok (.getfield 11, 3) := by decide +kernel
theorem dX2_setToDifference_23 : decode cX2_setToDifference 23 = .ok (.iload_n 3, 1) := by decide +kernel
theorem dX2_setToDifference_24 : decode cX2_setToDifference 24 = .ok (.laload, 1) := by decide +kernel
theorem dX2_setToDifference_25 : decode cX2_setToDifference 25 = .ok (.aload_n 2, 1) := by decide +kernel
theorem dX2_setToDifference_26 : decode cX2_setToDifference 26 = .ok (.getfield 11, 3) := by decide +kernel
theorem dX2_setToDifference_29 : decode cX2_setToDifference 29 = .ok (.iload_n 3, 1) := by decide +kernel
theorem dX2_setToDifference_30 : decode cX2_setToDifference 30 = .ok (.laload, 1) := by decide +kernel
theorem dX2_setToDifference_31 : decode cX2_setToDifference 31 = .ok (.ldc2_w 29, 3) := by decide +kernel
theorem dX2_setToDifference_34 : decode cX2_setToDifference 34 = .ok (.lxor, 1) := by decide +kernel
theorem dX2_setToDifference_35 : decode cX2_setToDifference 35 = .ok (.land, 1) := by decide +kernel
theorem dX2_setToDifference_36 : decode cX2_setToDifference 36 = .ok (.lastore, 1) := by decide +kernel
theorem dX2_setToDifference_37 : decode cX2_setToDifference 37 = .ok (.aload_n 0, 1) := by decide +kernel
theorem dX2_setToDifference_38 : decode cX2_setToDifference 38 = .ok (.dup, 1) := by decide +kernel
theorem dX2_setToDifference_39 : decode cX2_setToDifference 39 = .ok (.getfield 19, 3) := by decide +kernel
theorem dX2_setToDifference_42 : decode cX2_setToDifference 42 = .ok (.aload_n 0, 1) := by decide +kernel
theorem dX2_setToDifference_43 : decode cX2_setToDifference 43 = .ok (.getfield 11, 3) := by decide +kernel
theorem dX2_setToDifference_46 : decode cX2_setToDifference 46 = .ok (.iload_n 3, 1) := by decide +kernel
theorem dX2_setToDifference_47 : decode cX2_setToDifference 47 = .ok (.laload, 1) := by decide +kernel
theorem dX2_setToDifference_48 : decode cX2_setToDifference 48 = .ok (.invokestatic 31, 3) := by decide +kernel
theorem dX2_setToDifference_51 : decode cX2_setToDifference 51 = .ok (.iadd, 1) := by decide +kernel
theorem dX2_setToDifference_52 : decode cX2_setToDifference 52 = .ok (.putfield 19, 3) := by decide +kernel
theorem dX2_setToDifference_55 : decode cX2_setToDifference 55 = .ok (.iinc 3 1, 3) := by decide +kernel
theorem dX2_setToDifference_58 : decode cX2_setToDifference 58 = .ok (.goto (-51), 3) := by decide +kernel
theorem dX2_setToDifference_61 : decode cX2_setToDifference 61 = .ok (.return_, 1) := by decide +kernel
theorem dX2_codeAt_0 : decode cX2_codeAt 0 = .ok (.iload_n 1, 1) := by decide +kernel
theorem dX2_codeAt_1 : decode cX2_codeAt 1 = .ok (.istore_n 2, 1) := by decide +kernel
theorem dX2_codeAt_2 : decode cX2_codeAt 2 = .ok (.iconst 0, 1) := by decide +kernel
theorem dX2_codeAt_3 : decode cX2_codeAt 3 = .ok (.istore_n 3, 1) := by decide +kernel
theorem dX2_codeAt_4 : decode cX2_codeAt 4 = .ok (.iload_n 3, 1) := by decide +kernel
theorem dX2_codeAt_5 : decode cX2_codeAt 5 = .ok (.sipush 4096, 3) := by decide +kernel
theorem dX2_codeAt_8 : decode cX2_codeAt 8 = .ok (.if_icmp .ge 47, 3) := by decide +kernel
theorem dX2_codeAt_11 : decode cX2_codeAt 11 = .ok (.aload_n 0, 1) := by decide +kernel
theorem dX2_codeAt_12 : decode cX2_codeAt 12 = .ok (.getfield 11, 3) := by decide +kernel
theorem dX2_codeAt_15 : decode cX2_codeAt 15 = .ok (.iload_n 3, 1) := by decide +kernel
theorem dX2_codeAt_16 : decode cX2_codeAt 16 = .ok (.laload, 1) := by decide +kernel
theorem dX2_codeAt_17 : decode cX2_codeAt 17 = .ok (.invokestatic 31, 3) := by decide +kernel
theorem dX2_codeAt_20 : decode cX2_codeAt 20 = .ok (.istore 4, 2) := by decide +kernel
theorem dX2_codeAt_22 : decode cX2_codeAt 22 = .ok (.iload_n 2, 1) := by decide +kernel
theorem dX2_codeAt_23 : decode cX2_codeAt 23 = .ok (.iload 4, 2) := by decide +kernel
theorem dX2_codeAt_25 : decode cX2_codeAt 25 = .ok (.if_icmp .ge 19, 3) := by decide +kernel
theorem dX2_codeAt_28 : decode cX2_codeAt 28 = .ok (.iload_n 3, 1) := by decide +kernel
theorem dX2_codeAt_29 : decode cX2_codeAt 29 = .ok (.bipush 64, 2) := by decide +kernel
theorem dX2_codeAt_31 : decode cX2_codeAt 31 = .ok (.imul, 1) := by decide +kernel
theorem dX2_codeAt_32 : decode cX2_codeAt 32 = .ok (.aload_n 0, 1) := by decide +kernel
theorem dX2_codeAt_33 : decode cX2_codeAt 33 = .ok (.getfield 11, 3) := by decide +kernel
theorem dX2_codeAt_36 : decode cX2_codeAt 36 = .ok (.iload_n 3, 1) := by decide +kernel
theorem dX2_codeAt_37 : decode cX2_codeAt 37 = .ok (.laload, 1) := by decide +kernel
theorem dX2_codeAt_38 : decode cX2_codeAt 38 = .ok (.iload_n 2, 1) := by decide +kernel
theorem dX2_codeAt_39 : decode cX2_codeAt 39 = .ok (.invokestatic 37, 3) := by decide +kernel
theorem dX2_codeAt_42 : decode cX2_codeAt 42 = .ok (.iadd, 1) := by decide +kernel
theorem dX2_codeAt_43 : decode cX2_codeAt 43 = .ok (.ireturn, 1) := by decide +kernel
theorem dX2_codeAt_44 : decode cX2_codeAt 44 = .ok (.iload_n 2, 1) := by decide +kernel
theorem dX2_codeAt_45 : decode cX2_codeAt 45 = .ok (.iload 4, 2) := by decide +kernel
theorem dX2_codeAt_47 : decode cX2_codeAt 47 = .ok (.isub, 1) := by decide +kernel
theorem dX2_codeAt_48 : decode cX2_codeAt 48 = .ok (.istore_n 2, 1) := by decide +kernel
theorem dX2_codeAt_49 : decode cX2_codeAt 49 = .ok (.iinc 3 1, 3) := by decide +kernel
theorem dX2_codeAt_52 : decode cX2_codeAt 52 = .ok (.goto (-48), 3) := by decide +kernel
theorem dX2_codeAt_55 : decode cX2_codeAt 55 = .ok (.iconst (-1), 1) := by decide +kernel
theorem dX2_codeAt_56 : decode cX2_codeAt 56 = .ok (.ireturn, 1) := by decide +kernel
theorem dX2_bitAt_0 : decode cX2_bitAt 0 = .ok (.iload_n 2, 1) := by decide +kernel
theorem dX2_bitAt_1 : decode cX2_bitAt 1 = .ok (.istore_n 3, 1) := by decide +kernel
theorem dX2_bitAt_2 : decode cX2_bitAt 2 = .ok (.iconst 0, 1) := by decide +kernel
theorem dX2_bitAt_3 : decode cX2_bitAt 3 = .ok (.istore 4, 2) := by decide +kernel
theorem dX2_bitAt_5 : decode cX2_bitAt 5 = .ok (.iload 4, 2) := by decide +kernel
theorem dX2_bitAt_7 : decode cX2_bitAt 7 = .ok (.bipush 64, 2) := by decide +kernel
theorem dX2_bitAt_9 : decode cX2_bitAt 9 = .ok (.if_icmp .ge 30, 3) := by decide +kernel
theorem dX2_bitAt_12 : decode cX2_bitAt 12 = .ok (.lload_n 0, 1) := by decide +kernel
theorem dX2_bitAt_13 : decode cX2_bitAt 13 = .ok (.iload 4, 2) := by decide +kernel
theorem dX2_bitAt_15 : decode cX2_bitAt 15 = .ok (.lushr, 1) := by decide +kernel
theorem dX2_bitAt_16 : decode cX2_bitAt 16 = .ok (.lconst 1, 1) := by decide +kernel
theorem dX2_bitAt_17 : decode cX2_bitAt 17 = .ok (.land, 1) := by decide +kernel
theorem dX2_bitAt_18 : decode cX2_bitAt 18 = .ok (.lconst 0, 1) := by decide +kernel
theorem dX2_bitAt_19 : decode cX2_bitAt 19 = .ok (.lcmp, 1) := by decide +kernel
theorem dX2_bitAt_20 : decode cX2_bitAt 20 = .ok (.ifCond .eq 13, 3) := by decide +kernel
theorem dX2_bitAt_23 : decode cX2_bitAt 23 = .ok (.iload_n 3, 1) := by decide +kernel
theorem dX2_bitAt_24 : decode cX2_bitAt 24 = .ok (.ifCond .ne 6, 3) := by decide +kernel
theorem dX2_bitAt_27 : decode cX2_bitAt 27 = .ok (.iload 4, 2) := by decide +kernel
theorem dX2_bitAt_29 : decode cX2_bitAt 29 = .ok (.ireturn, 1) := by decide +kernel
theorem dX2_bitAt_30 : decode cX2_bitAt 30 = .ok (.iinc 3 (-1), 3) := by decide +kernel
theorem dX2_bitAt_33 : decode cX2_bitAt 33 = .ok (.iinc 4 1, 3) := by decide +kernel
theorem dX2_bitAt_36 : decode cX2_bitAt 36 = .ok (.goto (-31), 3) := by decide +kernel
theorem dX2_bitAt_39 : decode cX2_bitAt 39 = .ok (.iconst 0, 1) := by decide +kernel
theorem dX2_bitAt_40 : decode cX2_bitAt 40 = .ok (.ireturn, 1) := by decide +kernel
theorem dX3_init_0 : decode cX3_init 0 = .ok (.aload_n 0, 1) := by decide +kernel
theorem dX3_init_1 : decode cX3_init 1 = .ok (.invokespecial 1, 3) := by decide +kernel
theorem dX3_init_4 : decode cX3_init 4 = .ok (.aload_n 0, 1) := by decide +kernel
theorem dX3_init_5 : decode cX3_init 5 = .ok (.new 7, 3) := by decide +kernel
theorem dX3_init_8 : decode cX3_init 8 = .ok (.dup, 1) := by decide +kernel
theorem dX3_init_9 : decode cX3_init 9 = .ok (.invokespecial 9, 3) := by decide +kernel
theorem dX3_init_12 : decode cX3_init 12 = .ok (.putfield 10, 3) := by decide +kernel
theorem dX3_init_15 : decode cX3_init 15 = .ok (.aload_n 0, 1) := by decide +kernel
theorem dX3_init_16 : decode cX3_init 16 = .ok (.sipush 512, 3) := by decide +kernel
theorem dX3_init_19 : decode cX3_init 19 = .ok (.anewarray 16, 3) := by decide +kernel
theorem dX3_init_22 : decode cX3_init 22 = .ok (.putfield 18, 3) := by decide +kernel
theorem dX3_init_25 : decode cX3_init 25 = .ok (.iconst 0, 1) := by decide +kernel
theorem dX3_init_26 : decode cX3_init 26 = .ok (.istore_n 1, 1) := by decide +kernel
theorem dX3_init_27 : decode cX3_init 27 = .ok (.iload_n 1, 1) := by decide +kernel
theorem dX3_init_28 : decode cX3_init 28 = .ok (.sipush 512, 3) := by decide +kernel
theorem dX3_init_31 : decode cX3_init 31 = .ok (.if_icmp .ge 22, 3) := by decide +kernel
theorem dX3_init_34 : decode cX3_init 34 = .ok (.aload_n 0, 1) := by decide +kernel
theorem dX3_init_35 : decode cX3_init 35 = .ok (.getfield 18, 3) := by decide +kernel
theorem dX3_init_38 : decode cX3_init 38 = .ok (.iload_n 1, 1) := by decide +kernel
theorem dX3_init_39 : decode cX3_init 39 = .ok (.new 16, 3) := by decide +kernel
theorem dX3_init_42 : decode cX3_init 42 = .ok (.dup, 1) := by decide +kernel
theorem dX3_init_43 : decode cX3_init 43 = .ok (.invokespecial 22, 3) := by decide +kernel
theorem dX3_init_46 : decode cX3_init 46 = .ok (.aastore, 1) := by decide +kernel
theorem dX3_init_47 : decode cX3_init 47 = .ok (.iinc 1 1, 3) := by decide +kernel
theorem dX3_init_50 : decode cX3_init 50 = .ok (.goto (-23), 3) := by decide +kernel
theorem dX3_init_53 : decode cX3_init 53 = .ok (.aload_n 0, 1) := by decide +kernel
theorem dX3_init_54 : decode cX3_init 54 = .ok (.new 23, 3) := by decide +kernel
theorem dX3_init_57 : decode cX3_init 57 = .ok (.dup, 1) := by decide +kernel
theorem dX3_init_58 : decode cX3_init 58 = .ok (.invokespecial 25, 3) := by decide +kernel
theorem dX3_init_61 : decode cX3_init 61 = .ok (.putfield 26, 3) := by decide +kernel
theorem dX3_init_64 : decode cX3_init 64 = .ok (.aload_n 0, 1) := by decide +kernel
theorem dX3_init_65 : decode cX3_init 65 = .ok (.new 23, 3) := by decide +kernel
theorem dX3_init_68 : decode cX3_init 68 = .ok (.dup, 1) := by decide +kernel
theorem dX3_init_69 : decode cX3_init 69 = .ok (.invokespecial 25, 3) := by decide +kernel
theorem dX3_init_72 : decode cX3_init 72 = .ok (.putfield 30, 3) := by decide +kernel
theorem dX3_init_75 : decode cX3_init 75 = .ok (.aload_n 0, 1) := by decide +kernel
theorem dX3_init_76 : decode cX3_init 76 = .ok (.new 23, 3) := by decide +kernel
theorem dX3_init_79 : decode cX3_init 79 = .ok (.dup, 1) := by decide +kernel
theorem dX3_init_80 : decode cX3_init 80 = .ok (.invokespecial 25, 3) := by decide +kernel
theorem dX3_init_83 : decode cX3_init 83 = .ok (.putfield 33, 3) := by decide +kernel
theorem dX3_init_86 : decode cX3_init 86 = .ok (.aload_n 0, 1) := by decide +kernel
theorem dX3_init_87 : decode cX3_init 87 = .ok (.new 23, 3) := by decide +kernel
theorem dX3_init_90 : decode cX3_init 90 = .ok (.dup, 1) := by decide +kernel
theorem dX3_init_91 : decode cX3_init 91 = .ok (.invokespecial 25, 3) := by decide +kernel
theorem dX3_init_94 : decode cX3_init 94 = .ok (.putfield 36, 3) := by decide +kernel
theorem dX3_init_97 : decode cX3_init 97 = .ok (.aload_n 0, 1) := by decide +kernel
theorem dX3_init_98 : decode cX3_init 98 = .ok (.sipush 512, 3) := by decide +kernel
theorem dX3_init_101 : decode cX3_init 101 = .ok (.newarray .int, 2) := by decide +kernel
theorem dX3_init_103 : decode cX3_init 103 = .ok (.putfield 39, 3) := by decide +kernel
theorem dX3_init_106 : decode cX3_init 106 = .ok (.aload_n 0, 1) := by decide +kernel
theorem dX3_init_107 : decode cX3_init 107 = .ok (.sipush 512, 3) := by decide +kernel
theorem dX3_init_110 : decode cX3_init 110 = .ok (.newarray .float, 2) := by decide +kernel
theorem dX3_init_112 : decode cX3_init 112 = .ok (.putfield 43, 3) := by decide +kernel
theorem dX3_init_115 : decode cX3_init 115 = .ok (.aload_n 0, 1) := by decide +kernel
theorem dX3_init_116 : decode cX3_init 116 = .ok (.new 7, 3) := by decide +kernel
theorem dX3_init_119 : decode cX3_init 119 = .ok (.dup, 1) := by decide +kernel
theorem dX3_init_120 : decode cX3_init 120 = .ok (.invokespecial 9, 3) := by decide +kernel
theorem dX3_init_123 : decode cX3_init 123 = .ok (.putfield 47, 3) := by decide +kernel
theorem dX3_init_126 : decode cX3_init 126 = .ok (.return_, 1) := by decide +kernel
theorem dX3_low_0 : decode cX3_low 0 = .ok (.fload_n 1, 1) := by decide +kernel
theorem dX3_low_1 : decode cX3_low 1 = .ok (.fload_n 2, 1) := by decide +kernel
theorem dX3_low_2 : decode cX3_low 2 = .ok (.fload_n 3, 1) := by decide +kernel
theorem dX3_low_3 : decode cX3_low 3 = .ok (.invokestatic 50, 3) := by decide +kernel
theorem dX3_low_6 : decode cX3_low 6 = .ok (.aload_n 0, 1) := by decide +kernel
theorem dX3_low_7 : decode cX3_low 7 = .ok (.getfield 10, 3) := by decide +kernel
theorem dX3_low_10 : decode cX3_low 10 = .ok (.iconst 0, 1) := by decide +kernel
theorem dX3_low_11 : decode cX3_low 11 = .ok (.fload_n 1, 1) := by decide +kernel
theorem dX3_low_12 : decode cX3_low 12 = .ok (.fload_n 2, 1) := by decide +kernel
theorem dX3_low_13 : decode cX3_low 13 = .ok (.fload_n 3, 1) := by decide +kernel
theorem dX3_low_14 : decode cX3_low 14 = .ok (.invokevirtual 54, 3) := by decide +kernel
theorem dX3_low_17 : decode cX3_low 17 = .ok (.return_, 1) := by decide +kernel
theorem dX3_high_0 : decode cX3_high 0 = .ok (.fload_n 1, 1) := by decide +kernel
theorem dX3_high_1 : decode cX3_high 1 = .ok (.fload_n 2, 1) := by decide +kernel
theorem dX3_high_2 : decode cX3_high 2 = .ok (.fload_n 3, 1) := by decide +kernel
theorem dX3_high_3 : decode cX3_high 3 = .ok (.invokestatic 50, 3) := by decide +kernel
theorem dX3_high_6 : decode cX3_high 6 = .ok (.aload_n 0, 1) := by decide +kernel
theorem dX3_high_7 : decode cX3_high 7 = .ok (.getfield 10, 3) := by decide +kernel
theorem dX3_high_10 : decode cX3_high 10 = .ok (.iconst 3, 1) := by decide +kernel
theorem dX3_high_11 : decode cX3_high 11 = .ok (.fload_n 1, 1) := by decide +kernel
theorem dX3_high_12 : decode cX3_high 12 = .ok (.fload_n 2, 1) := by decide +kernel
theorem dX3_high_13 : decode cX3_high 13 = .ok (.fload_n 3, 1) := by decide +kernel
theorem dX3_high_14 : decode cX3_high 14 = .ok (.invokevirtual 54, 3) := by decide +kernel
theorem dX3_high_17 : decode cX3_high 17 = .ok (.return_, 1) := by decide +kernel
theorem dX3_add_0 : decode cX3_add 0 = .ok (.aload_n 0, 1) := by decide +kernel
theorem dX3_add_1 : decode cX3_add 1 = .ok (.invokevirtual 58, 3) := by decide +kernel
theorem dX3_add_4 : decode cX3_add 4 = .ok (.aload_n 0, 1) := by decide +kernel
theorem dX3_add_5 : decode cX3_add 5 = .ok (.iconst 1, 1) := by decide +kernel
theorem dX3_add_6 : decode cX3_add 6 = .ok (.invokevirtual 61, 3) := by decide +kernel
theorem dX3_add_9 : decode cX3_add 9 = .ok (.aload_n 0, 1) := by decide +kernel
theorem dX3_add_10 : decode cX3_add 10 = .ok (.iconst 1, 1) := by decide +kernel
theorem dX3_add_11 : decode cX3_add 11 = .ok (.fconst 0, 1) := by decide +kernel
theorem dX3_add_12 : decode cX3_add 12 = .ok (.fconst 0, 1) := by decide +kernel
theorem dX3_add_13 : decode cX3_add 13 = .ok (.fconst 0, 1) := by decide +kernel
theorem dX3_add_14 : decode cX3_add 14 = .ok (.iload_n 1, 1) := by decide +kernel
theorem dX3_add_15 : decode cX3_add 15 = .ok (.iload_n 2, 1) := by decide +kernel
theorem dX3_add_16 : decode cX3_add 16 = .ok (.invokevirtual 65, 3) := by decide +kernel
theorem dX3_add_19 : decode cX3_add 19 = .ok (.ireturn, 1) := by decide +kernel
theorem dX3_addRow_0 : decode cX3_addRow 0 = .ok (.iload_n 1, 1) := by decide +kernel
theorem dX3_addRow_1 : decode cX3_addRow 1 = .ok (.iconst 1, 1) := by decide +kernel
theorem dX3_addRow_2 : decode cX3_addRow 2 = .ok (.if_icmp .lt 10, 3) := by decide +kernel
theorem dX3_addRow_5 : decode cX3_addRow 5 = .ok (.iload_n 1, 1) := by decide +kernel
theorem dX3_addRow_6 : decode cX3_addRow 6 = .ok (.sipush 512, 3) := by decide +kernel
theorem dX3_addRow_9 : decode cX3_addRow 9 = .ok (.if_icmp .le 13, 3) := by decide +kernel
theorem dX3_addRow_12 : decode cX3_addRow 12 = .ok (.new 69, 3) := by decide +kernel
theorem dX3_addRow_15 : decode cX3_addRow 15 = .ok (.dup, 1) := by decide +kernel
theorem dX3_addRow_16 : decode cX3_addRow 16 = .ok (.ldc 71, 2) := by decide +kernel
theorem dX3_addRow_18 : decode cX3_addRow 18 = .ok (.invokespecial 73, 3) := by decide +kernel
theorem dX3_addRow_21 : decode cX3_addRow 21 = .ok (.athrow, 1) := by decide +kernel
theorem dX3_addRow_22 : decode cX3_addRow 22 = .ok (.aload_n 0, 1) := by decide +kernel
theorem dX3_addRow_23 : decode cX3_addRow 23 = .ok (.invokevirtual 58, 3) := by decide +kernel
theorem dX3_addRow_26 : decode cX3_addRow 26 = .ok (.fload_n 2, 1) := by decide +kernel
theorem dX3_addRow_27 : decode cX3_addRow 27 = .ok (.fload_n 3, 1) := by decide +kernel
theorem dX3_addRow_28 : decode cX3_addRow 28 = .ok (.fload 4, 2) := by decide +kernel
theorem dX3_addRow_30 : decode cX3_addRow 30 = .ok (.invokestatic 76, 3) := by decide +kernel
theorem dX3_addRow_33 : decode cX3_addRow 33 = .ok (.aload_n 0, 1) := by decide +kernel
theorem dX3_addRow_34 : decode cX3_addRow 34 = .ok (.iload_n 1, 1) := by decide +kernel
theorem dX3_addRow_35 : decode cX3_addRow 35 = .ok (.fload_n 2, 1) := by decide +kernel
theorem dX3_addRow_36 : decode cX3_addRow 36 = .ok (.fload_n 3, 1) := by decide +kernel
theorem dX3_addRow_37 : decode cX3_addRow 37 = .ok (.fload 4, 2) := by decide +kernel
theorem dX3_addRow_39 : decode cX3_addRow 39 = .ok (.invokevirtual 79, 3) := by decide +kernel
theorem dX3_addRow_42 : decode cX3_addRow 42 = .ok (.ifCond .ne 13, 3) := by decide +kernel
theorem dX3_addRow_45 : decode cX3_addRow 45 = .ok (.new 69, 3) := by decide +kernel
theorem dX3_addRow_48 : decode cX3_addRow 48 = .ok (.dup, 1) := by decide +kernel
theorem dX3_addRow_49 : decode cX3_addRow 49 = .ok (.ldc 83, 2) := by decide +kernel
theorem dX3_addRow_51 : decode cX3_addRow 51 = .ok (.invokespecial 73, 3) := by decide +kernel
theorem dX3_addRow_54 : decode cX3_addRow 54 = .ok (.athrow, 1) := by decide +kernel
theorem dX3_addRow_55 : decode cX3_addRow 55 = .ok (.aload_n 0, 1) := by decide +kernel
theorem dX3_addRow_56 : decode cX3_addRow 56 = .ok (.iload_n 1, 1) := by decide +kernel
theorem dX3_addRow_57 : decode cX3_addRow 57 = .ok (.invokevirtual 61, 3) := by decide +kernel
theorem dX3_addRow_60 : decode cX3_addRow 60 = .ok (.aload_n 0, 1) := by decide +kernel
theorem dX3_addRow_61 : decode cX3_addRow 61 = .ok (.iload_n 1, 1) := by decide +kernel
theorem dX3_addRow_62 : decode cX3_addRow 62 = .ok (.fload_n 2, 1) := by decide +kernel
theorem dX3_addRow_63 : decode cX3_addRow 63 = .ok (.fload_n 3, 1) := by decide +kernel
theorem dX3_addRow_64 : decode cX3_addRow 64 = .ok (.fload 4, 2) := by decide +kernel
theorem dX3_addRow_66 : decode cX3_addRow 66 = .ok (.iload 5, 2) := by decide +kernel
theorem dX3_addRow_68 : decode cX3_addRow 68 = .ok (.iload 6, 2) := by decide +kernel
theorem dX3_addRow_70 : decode cX3_addRow 70 = .ok (.invokevirtual 65, 3) := by decide +kernel
theorem dX3_addRow_73 : decode cX3_addRow 73 = .ok (.ireturn, 1) := by decide +kernel
theorem dX3_move_0 : decode cX3_move 0 = .ok (.aload_n 0, 1) := by decide +kernel
theorem dX3_move_1 : decode cX3_move 1 = .ok (.iload_n 1, 1) := by decide +kernel
theorem dX3_move_2 : decode cX3_move 2 = .ok (.invokevirtual 85, 3) := by decide +kernel
theorem dX3_move_5 : decode cX3_move 5 = .ok (.aload_n 0, 1) := by decide +kernel
theorem dX3_move_6 : decode cX3_move 6 = .ok (.invokevirtual 58, 3) := by decide +kernel
theorem dX3_move_9 : decode cX3_move 9 = .ok (.fload_n 2, 1) := by decide +kernel
theorem dX3_move_10 : decode cX3_move 10 = .ok (.fload_n 3, 1) := by decide +kernel
theorem dX3_move_11 : decode cX3_move 11 = .ok (.fload 4, 2) := by decide +kernel
theorem dX3_move_13 : decode cX3_move 13 = .ok (.invokestatic 76, 3) := by decide +kernel
theorem dX3_move_16 : decode cX3_move 16 = .ok (.aload_n 0, 1) := by decide +kernel
theorem dX3_move_17 : decode cX3_move 17 = .ok (.getfield 18, 3) := by decide +kernel
theorem dX3_move_20 : decode cX3_move 20 = .ok (.iload_n 1, 1) := by decide +kernel
theorem dX3_move_21 : decode cX3_move 21 = .ok (.aaload, 1) := by decide +kernel
theorem dX3_move_22 : decode cX3_move 22 = .ok (.aload_n 0, 1) := by decide +kernel
theorem dX3_move_23 : decode cX3_move 23 = .ok (.getfield 10, 3) := by decide +kernel
theorem dX3_move_26 : decode cX3_move 26 = .ok (.fload_n 2, 1) := by decide +kernel
theorem dX3_move_27 : decode cX3_move 27 = .ok (.fload_n 3, 1) := by decide +kernel
theorem dX3_move_28 : decode cX3_move 28 = .ok (.fload 4, 2) := by decide +kernel
theorem dX3_move_30 : decode cX3_move 30 = .ok (.invokevirtual 88, 3) := by decide +kernel
theorem dX3_move_33 : decode cX3_move 33 = .ok (.ireturn, 1) := by decide +kernel
theorem dX3_shift_0 : decode cX3_shift 0 = .ok (.iload_n 1, 1) := by decide +kernel
theorem dX3_shift_1 : decode cX3_shift 1 = .ok (.invokestatic 92, 3) := by decide +kernel
theorem dX3_shift_4 : decode cX3_shift 4 = .ok (.ifCond .eq 15, 3) := by decide +kernel
theorem dX3_shift_7 : decode cX3_shift 7 = .ok (.iload_n 2, 1) := by decide +kernel
theorem dX3_shift_8 : decode cX3_shift 8 = .ok (.invokestatic 92, 3) := by decide +kernel
theorem dX3_shift_11 : decode cX3_shift 11 = .ok (.ifCond .eq 8, 3) := by decide +kernel
theorem dX3_shift_14 : decode cX3_shift 14 = .ok (.iload_n 1, 1) := by decide +kernel
theorem dX3_shift_15 : decode cX3_shift 15 = .ok (.iload_n 2, 1) := by decide +kernel
theorem dX3_shift_16 : decode cX3_shift 16 = .ok (.if_icmp .le 13, 3) := by decide +kernel
theorem dX3_shift_19 : decode cX3_shift 19 = .ok (.new 96, 3) := by decide +kernel
theorem dX3_shift_22 : decode cX3_shift 22 = .ok (.dup, 1) := by decide +kernel
theorem dX3_shift_23 : decode cX3_shift 23 = .ok (.ldc 98, 2) := by decide +kernel
theorem dX3_shift_25 : decode cX3_shift 25 = .ok (.invokespecial 100, 3) := by decide +kernel
theorem dX3_shift_28 : decode cX3_shift 28 = .ok (.athrow, 1) := by decide +kernel
theorem dX3_shift_29 : decode cX3_shift 29 = .ok (.fload_n 3, 1) := by decide +kernel
theorem dX3_shift_30 : decode cX3_shift 30 = .ok (.fload 4, 2) := by decide +kernel
theorem dX3_shift_32 : decode cX3_shift 32 = .ok (.fload 5, 2) := by decide +kernel
theorem dX3_shift_34 : decode cX3_shift 34 = .ok (.invokestatic 76, 3) := by decide +kernel
theorem dX3_shift_37 : decode cX3_shift 37 = .ok (.iconst 0, 1) := by decide +kernel
theorem dX3_shift_38 : decode cX3_shift 38 = .ok (.istore 6, 2) := by decide +kernel
theorem dX3_shift_40 : decode cX3_shift 40 = .ok (.iload_n 1, 1) := by decide +kernel
theorem dX3_shift_41 : decode cX3_shift 41 = .ok (.istore 7, 2) := by decide +kernel
theorem dX3_shift_43 : decode cX3_shift 43 = .ok (.iload 7, 2) := by decide +kernel
theorem dX3_shift_45 : decode cX3_shift 45 = .ok (.iload_n 2, 1) := by decide +kernel
theorem dX3_shift_46 : decode cX3_shift 46 = .ok (.if_icmp .gt 44, 3) := by decide +kernel
theorem dX3_shift_49 : decode cX3_shift 49 = .ok (.aload_n 0, 1) := by decide +kernel
theorem dX3_shift_50 : decode cX3_shift 50 = .ok (.getfield 18, 3) := by decide +kernel
theorem dX3_shift_53 : decode cX3_shift 53 = .ok (.iload 7, 2) := by decide +kernel
theorem dX3_shift_55 : decode cX3_shift 55 = .ok (.aaload, 1) := by decide +kernel
theorem dX3_shift_56 : decode cX3_shift 56 = .ok (.getfield 101, 3) := by decide +kernel
theorem dX3_shift_59 : decode cX3_shift 59 = .ok (.ifCond .eq 25, 3) := by decide +kernel
theorem dX3_shift_62 : decode cX3_shift 62 = .ok (.aload_n 0, 1) := by decide +kernel
theorem dX3_shift_63 : decode cX3_shift 63 = .ok (.aload_n 0, 1) := by decide +kernel
theorem dX3_shift_64 : decode cX3_shift 64 = .ok (.getfield 18, 3) := by decide +kernel
theorem dX3_shift_67 : decode cX3_shift 67 = .ok (.iload 7, 2) := by decide +kernel
theorem dX3_shift_69 : decode cX3_shift 69 = .ok (.aaload, 1) := by decide +kernel
theorem dX3_shift_70 : decode cX3_shift 70 = .ok (.fload_n 3, 1) := by decide +kernel
theorem dX3_shift_71 : decode cX3_shift 71 = .ok (.fload 4, 2) := by decide +kernel
theorem dX3_shift_73 : decode cX3_shift 73 = .ok (.fload 5, 2) := by decide +kernel
theorem dX3_shift_75 : decode cX3_shift 75 = .ok (.invokevirtual 105, 3) := by decide +kernel
theorem dX3_shift_78 : decode cX3_shift 78 = .ok (.ifCond .eq 6, 3) := by decide +kernel
theorem dX3_shift_81 : decode cX3_shift 81 = .ok (.iinc 6 1, 3) := by decide +kernel
theorem dX3_shift_84 : decode cX3_shift 84 = .ok (.iinc 7 1, 3) := by decide +kernel
theorem dX3_shift_87 : decode cX3_shift 87 = .ok (.goto (-44), 3) := by decide +kernel
theorem dX3_shift_90 : decode cX3_shift 90 = .ok (.iload 6, 2) := by decide +kernel
theorem dX3_shift_92 : decode cX3_shift 92 = .ok (.ireturn, 1) := by decide +kernel
theorem dX3_filter_0 : decode cX3_filter 0 = .ok (.aload_n 0, 1) := by decide +kernel
theorem dX3_filter_1 : decode cX3_filter 1 = .ok (.iload_n 1, 1) := by decide +kernel
theorem dX3_filter_2 : decode cX3_filter 2 = .ok (.invokevirtual 85, 3) := by decide +kernel
theorem dX3_filter_5 : decode cX3_filter 5 = .ok (.aload_n 0, 1) := by decide +kernel
theorem dX3_filter_6 : decode cX3_filter 6 = .ok (.getfield 18, 3) := by decide +kernel
theorem dX3_filter_9 : decode cX3_filter 9 = .ok (.iload_n 1, 1) := by decide +kernel
theorem dX3_filter_10 : decode cX3_filter 10 = .ok (.aaload, 1) := by decide +kernel
theorem dX3_filter_11 : decode cX3_filter 11 = .ok (.iload_n 2, 1) := by decide +kernel
theorem dX3_filter_12 : decode cX3_filter 12 = .ok (.iload_n 3, 1) := by decide +kernel
theorem dX3_filter_13 : decode cX3_filter 13 = .ok (.invokevirtual 109, 3) := by decide +kernel
theorem dX3_filter_16 : decode cX3_filter 16 = .ok (.return_, 1) := by decide +kernel
theorem dX3_remove_0 : decode cX3_remove 0 = .ok (.aload_n 0, 1) := by decide +kernel
theorem dX3_remove_1 : decode cX3_remove 1 = .ok (.iload_n 1, 1) := by decide +kernel
theorem dX3_remove_2 : decode cX3_remove 2 = .ok (.invokevirtual 85, 3) := by decide +kernel
theorem dX3_remove_5 : decode cX3_remove 5 = .ok (.iconst 0, 1) := by decide +kernel
theorem dX3_remove_6 : decode cX3_remove 6 = .ok (.istore_n 2, 1) := by decide +kernel
theorem dX3_remove_7 : decode cX3_remove 7 = .ok (.iconst 0, 1) := by decide +kernel
theorem dX3_remove_8 : decode cX3_remove 8 = .ok (.istore_n 3, 1) := by decide +kernel
theorem dX3_remove_9 : decode cX3_remove 9 = .ok (.iload_n 3, 1) := by decide +kernel
theorem dX3_remove_10 : decode cX3_remove 10 = .ok (.sipush 512, 3) := by decide +kernel
theorem dX3_remove_13 : decode cX3_remove 13 = .ok (.if_icmp .ge 34, 3) := by decide +kernel
theorem dX3_remove_16 : decode cX3_remove 16 = .ok (.aload_n 0, 1) := by decide +kernel
theorem dX3_remove_17 : decode cX3_remove 17 = .ok (.iload_n 1, 1) := by decide +kernel
theorem dX3_remove_18 : decode cX3_remove 18 = .ok (.iload_n 3, 1) := by decide +kernel
theorem dX3_remove_19 : decode cX3_remove 19 = .ok (.invokevirtual 113, 3) := by decide +kernel
theorem dX3_remove_22 : decode cX3_remove 22 = .ok (.ifCond .eq 19, 3) := by decide +kernel
theorem dX3_remove_25 : decode cX3_remove 25 = .ok (.aload_n 0, 1) := by decide +kernel
theorem dX3_remove_26 : decode cX3_remove 26 = .ok (.getfield 26, 3) := by decide +kernel
theorem dX3_remove_29 : decode cX3_remove 29 = .ok (.iload_n 1, 1) := by decide +kernel
theorem dX3_remove_30 : decode cX3_remove 30 = .ok (.iload_n 3, 1) := by decide +kernel
theorem dX3_remove_31 : decode cX3_remove 31 = .ok (.invokestatic 117, 3) := by decide +kernel
theorem dX3_remove_34 : decode cX3_remove 34 = .ok (.iconst 0, 1) := by decide +kernel
theorem dX3_remove_35 : decode cX3_remove 35 = .ok (.invokevirtual 121, 3) := by decide +kernel
theorem dX3_remove_38 : decode cX3_remove 38 = .ok (.iinc 2 1, 3) := by decide +kernel
theorem dX3_remove_41 : decode cX3_remove 41 = .ok (.iinc 3 1, 3) := by decide +kernel
theorem dX3_remove_44 : decode cX3_remove 44 = .ok (.goto (-35), 3) := by decide +kernel
theorem dX3_remove_47 : decode cX3_remove 47 = .ok (.aload_n 0, 1) := by decide +kernel
theorem dX3_remove_48 : decode cX3_remove 48 = .ok (.getfield 18, 3) := by decide +kernel
theorem dX3_remove_51 : decode cX3_remove 51 = .ok (.iload_n 1, 1) := by decide +kernel
theorem dX3_remove_52 : decode cX3_remove 52 = .ok (.aaload, 1) := by decide +kernel
theorem dX3_remove_53 : decode cX3_remove 53 = .ok (.invokevirtual 125, 3) := by decide +kernel
theorem dX3_remove_56 : decode cX3_remove 56 = .ok (.aload_n 0, 1) := by decide +kernel
theorem dX3_remove_57 : decode cX3_remove 57 = .ok (.dup, 1) := by decide +kernel
theorem dX3_remove_58 : decode cX3_remove 58 = .ok (.getfield 128, 3) := by decide +kernel
theorem dX3_remove_61 : decode cX3_remove 61 = .ok (.iconst 1, 1) := by decide +kernel
theorem dX3_remove_62 : decode cX3_remove 62 = .ok (.isub, 1) := by decide +kernel
theorem dX3_remove_63 : decode cX3_remove 63 = .ok (.putfield 128, 3) := by decide +kernel
theorem dX3_remove_66 : decode cX3_remove 66 = .ok (.iload_n 2, 1) := by decide +kernel
theorem dX3_remove_67 : decode cX3_remove 67 = .ok (.ireturn, 1) := by decide +kernel
theorem dX3_update_0 : decode cX3_update 0 = .ok (.aload_n 0, 1) := by decide +kernel
theorem dX3_update_1 : decode cX3_update 1 = .ok (.getfield 30, 3) := by decide +kernel
theorem dX3_update_4 : decode cX3_update 4 = .ok (.aload_n 0, 1) := by decide +kernel
theorem dX3_update_5 : decode cX3_update 5 = .ok (.getfield 26, 3) := by decide +kernel
theorem dX3_update_8 : decode cX3_update 8 = .ok (.invokevirtual 132, 3) := by decide +kernel
theorem dX3_update_11 : decode cX3_update 11 = .ok (.iconst 0, 1) := by decide +kernel
theorem dX3_update_12 : decode cX3_update 12 = .ok (.istore_n 1, 1) := by decide +kernel
theorem dX3_update_13 : decode cX3_update 13 = .ok (.iload_n 1, 1) := by decide +kernel
theorem dX3_update_14 : decode cX3_update 14 = .ok (.sipush 512, 3) := by decide +kernel
theorem dX3_update_17 : decode cX3_update 17 = .ok (.if_icmp .ge 26, 3) := by decide +kernel
theorem dX3_update_20 : decode cX3_update 20 = .ok (.aload_n 0, 1) := by decide +kernel
theorem dX3_update_21 : decode cX3_update 21 = .ok (.getfield 18, 3) := by decide +kernel
theorem dX3_update_24 : decode cX3_update 24 = .ok (.iload_n 1, 1) := by decide +kernel
theorem dX3_update_25 : decode cX3_update 25 = .ok (.aaload, 1) := by decide +kernel
theorem dX3_update_26 : decode cX3_update 26 = .ok (.getfield 136, 3) := by decide +kernel
theorem dX3_update_29 : decode cX3_update 29 = .ok (.ifCond .eq 8, 3) := by decide +kernel
theorem dX3_update_32 : decode cX3_update 32 = .ok (.aload_n 0, 1) := by decide +kernel
theorem dX3_update_33 : decode cX3_update 33 = .ok (.iload_n 1, 1) := by decide +kernel
theorem dX3_update_34 : decode cX3_update 34 = .ok (.invokevirtual 139, 3) := by decide +kernel
theorem dX3_update_37 : decode cX3_update 37 = .ok (.iinc 1 1, 3) := by decide +kernel
theorem dX3_update_40 : decode cX3_update 40 = .ok (.goto (-27), 3) := by decide +kernel
theorem dX3_update_43 : decode cX3_update 43 = .ok (.aload_n 0, 1) := by decide +kernel
theorem dX3_update_44 : decode cX3_update 44 = .ok (.getfield 30, 3) := by decide +kernel
theorem dX3_update_47 : decode cX3_update 47 = .ok (.getfield 142, 3) := by decide +kernel
theorem dX3_update_50 : decode cX3_update 50 = .ok (.sipush 16384, 3) := by decide +kernel
theorem dX3_update_53 : decode cX3_update 53 = .ok (.if_icmp .le 13, 3) := by decide +kernel
theorem dX3_update_56 : decode cX3_update 56 = .ok (.new 145, 3) := by decide +kernel
theorem dX3_update_59 : decode cX3_update 59 = .ok (.dup, 1) := by decide +kernel
theorem dX3_update_60 : decode cX3_update 60 = .ok (.ldc 147, 2) := by decide +kernel
theorem dX3_update_62 : decode cX3_update 62 = .ok (.invokespecial 149, 3) := by decide +kernel
theorem dX3_update_65 : decode cX3_update 65 = .ok (.athrow, 1) := by decide +kernel
theorem dX3_update_66 : decode cX3_update 66 = .ok (.aload_n 0, 1) := by decide +kernel
theorem dX3_update_67 : decode cX3_update 67 = .ok (.getfield 33, 3) := by decide +kernel
theorem dX3_update_70 : decode cX3_update 70 = .ok (.aload_n 0, 1) := by decide +kernel
theorem dX3_update_71 : decode cX3_update 71 = .ok (.getfield 30, 3) := by decide +kernel
theorem dX3_update_74 : decode cX3_update 74 = .ok (.aload_n 0, 1) := by decide +kernel
theorem dX3_update_75 : decode cX3_update 75 = .ok (.getfield 26, 3) := by decide +kernel
theorem dX3_update_78 : decode cX3_update 78 = .ok (.invokevirtual 150, 3) := by decide +kernel
theorem dX3_update_81 : decode cX3_update 81 = .ok (.aload_n 0, 1) := by decide +kernel
theorem dX3_update_82 : decode cX3_update 82 = .ok (.getfield 36, 3) := by decide +kernel
theorem dX3_update_85 : decode cX3_update 85 = .ok (.aload_n 0, 1) := by decide +kernel
theorem dX3_update_86 : decode cX3_update 86 = .ok (.getfield 26, 3) := by decide +kernel
theorem dX3_update_89 : decode cX3_update 89 = .ok (.aload_n 0, 1) := by decide +kernel
theorem dX3_update_90 : decode cX3_update 90 = .ok (.getfield 30, 3) := by decide +kernel
theorem dX3_update_93 : decode cX3_update 93 = .ok (.invokevirtual 150, 3) := by decide +kernel
theorem dX3_update_96 : decode cX3_update 96 = .ok (.aload_n 0, 1) := by decide +kernel
theorem dX3_update_97 : decode cX3_update 97 = .ok (.getfield 26, 3) := by decide +kernel
theorem dX3_update_100 : decode cX3_update 100 = .ok (.astore_n 1, 1) := by decide +kernel
theorem dX3_update_101 : decode cX3_update 101 = .ok (.aload_n 0, 1) := by decide +kernel
theorem dX3_update_102 : decode cX3_update 102 = .ok (.aload_n 0, 1) := by decide +kernel
theorem dX3_update_103 : decode cX3_update 103 = .ok (.getfield 30, 3) := by decide +kernel
theorem dX3_update_106 : decode cX3_update 106 = .ok (.putfield 26, 3) := by decide +kernel
theorem dX3_update_109 : decode cX3_update 109 = .ok (.aload_n 0, 1) := by decide +kernel
theorem dX3_update_110 : decode cX3_update 110 = .ok (.aload_n 1, 1) := by decide +kernel
theorem dX3_update_111 : decode cX3_update 111 = .ok (.putfield 30, 3) := by decide +kernel
theorem dX3_update_114 : decode cX3_update 114 = .ok (.iconst 0, 1) := by decide +kernel
theorem dX3_update_115 : decode cX3_update 115 = .ok (.istore_n 2, 1) := by decide +kernel
theorem dX3_update_116 : decode cX3_update 116 = .ok (.iload_n 2, 1) := by decide +kernel
theorem dX3_update_117 : decode cX3_update 117 = .ok (.sipush 512, 3) := by decide +kernel
theorem dX3_update_120 : decode cX3_update 120 = .ok (.if_icmp .ge 19, 3) := by decide +kernel
theorem dX3_update_123 : decode cX3_update 123 = .ok (.aload_n 0, 1) := by decide +kernel
theorem dX3_update_124 : decode cX3_update 124 = .ok (.getfield 18, 3) := by decide +kernel
theorem dX3_update_127 : decode cX3_update 127 = .ok (.iload_n 2, 1) := by decide +kernel
theorem dX3_update_128 : decode cX3_update 128 = .ok (.aaload, 1) := by decide +kernel
theorem dX3_update_129 : decode cX3_update 129 = .ok (.iconst 0, 1) := by decide +kernel
theorem dX3_update_130 : decode cX3_update 130 = .ok (.putfield 136, 3) := by decide +kernel
theorem dX3_update_133 : decode cX3_update 133 = .ok (.iinc 2 1, 3) := by decide +kernel
theorem dX3_update_136 : decode cX3_update 136 = .ok (.goto (-20), 3) := by decide +kernel
theorem dX3_update_139 : decode cX3_update 139 = .ok (.aload_n 0, 1) := by decide +kernel
theorem dX3_update_140 : decode cX3_update 140 = .ok (.dup, 1) := by decide +kernel
theorem dX3_update_141 : decode cX3_update 141 = .ok (.getfield 154, 3) := by decide +kernel
theorem dX3_update_144 : decode cX3_update 144 = .ok (.iconst 1, 1) := by decide +kernel
theorem dX3_update_145 : decode cX3_update 145 = .ok (.iadd, 1) := by decide +kernel
theorem dX3_update_146 : decode cX3_update 146 = .ok (.putfield 154, 3) := by decide +kernel
theorem dX3_update_149 : decode cX3_update 149 = .ok (.aload_n 0, 1) := by decide +kernel
theorem dX3_update_150 : decode cX3_update 150 = .ok (.getfield 26, 3) := by decide +kernel
theorem dX3_update_153 : decode cX3_update 153 = .ok (.getfield 142, 3) := by decide +kernel
theorem dX3_update_156 : decode cX3_update 156 = .ok (.ireturn, 1) := by decide +kernel
theorem dX3_pair_0 : decode cX3_pair 0 = .ok (.iload_n 1, 1) := by decide +kernel
theorem dX3_pair_1 : decode cX3_pair 1 = .ok (.ifCond .lt 8, 3) := by decide +kernel
theorem dX3_pair_4 : decode cX3_pair 4 = .ok (.iload_n 1, 1) := by decide +kernel
theorem dX3_pair_5 : decode cX3_pair 5 = .ok (.iconst 2, 1) := by decide +kernel
theorem dX3_pair_6 : decode cX3_pair 6 = .ok (.if_icmp .le 13, 3) := by decide +kernel
theorem dX3_pair_9 : decode cX3_pair 9 = .ok (.new 96, 3) := by decide +kernel
theorem dX3_pair_12 : decode cX3_pair 12 = .ok (.dup, 1) := by decide +kernel
theorem dX3_pair_13 : decode cX3_pair 13 = .ok (.ldc 157, 2) := by decide +kernel
theorem dX3_pair_15 : decode cX3_pair 15 = .ok (.invokespecial 100, 3) := by decide +kernel
theorem dX3_pair_18 : decode cX3_pair 18 = .ok (.athrow, 1) := by decide +kernel
theorem dX3_pair_19 : decode cX3_pair 19 = .ok (.iload_n 1, 1) := by decide +kernel
theorem dX3_pair_20 : decode cX3_pair 20 = .ok (.ifCond .ne 10, 3) := by decide +kernel
theorem dX3_pair_23 : decode cX3_pair 23 = .ok (.aload_n 0, 1) := by decide +kernel
theorem dX3_pair_24 : decode cX3_pair 24 = .ok (.getfield 26, 3) := by decide +kernel
theorem dX3_pair_27 : decode cX3_pair 27 = .ok (.goto 19, 3) := by decide +kernel
theorem dX3_pair_30 : decode cX3_pair 30 = .ok (.iload_n 1, 1) := by decide +kernel
theorem dX3_pair_31 : decode cX3_pair 31 = .ok (.iconst 1, 1) := by decide +kernel
theorem dX3_pair_32 : decode cX3_pair 32 = .ok (.if_icmp .ne 10, 3) := by decide +kernel
theorem dX3_pair_35 : decode cX3_pair 35 = .ok (.aload_n 0, 1) := by decide +kernel
theorem dX3_pair_36 : decode cX3_pair 36 = .ok (.getfield 33, 3) := by decide +kernel
theorem dX3_pair_39 : decode cX3_pair 39 = .ok (.goto 7, 3) := by decide +kernel
theorem dX3_pair_42 : decode cX3_pair 42 = .ok (.aload_n 0, 1) := by decide +kernel
theorem dX3_pair_43 : decode cX3_pair 43 = .ok (.getfield 36, 3) := by decide +kernel
theorem dX3_pair_46 : decode cX3_pair 46 = .ok (.astore_n 3, 1) := by decide +kernel
theorem dX3_pair_47 : decode cX3_pair 47 = .ok (.iload_n 2, 1) := by decide +kernel
theorem dX3_pair_48 : decode cX3_pair 48 = .ok (.ifCond .lt 11, 3) := by decide +kernel
theorem dX3_pair_51 : decode cX3_pair 51 = .ok (.iload_n 2, 1) := by decide +kernel
theorem dX3_pair_52 : decode cX3_pair 52 = .ok (.aload_n 3, 1) := by decide +kernel
theorem dX3_pair_53 : decode cX3_pair 53 = .ok (.getfield 142, 3) := by decide +kernel
theorem dX3_pair_56 : decode cX3_pair 56 = .ok (.if_icmp .lt 13, 3) := by decide +kernel
theorem dX3_pair_59 : decode cX3_pair 59 = .ok (.new 96, 3) := by decide +kernel
theorem dX3_pair_62 : decode cX3_pair 62 = .ok (.dup, 1) := by decide +kernel
theorem dX3_pair_63 : decode cX3_pair 63 = .ok (.ldc 159, 2) := by decide +kernel
theorem dX3_pair_65 : decode cX3_pair 65 = .ok (.invokespecial 100, 3) := by decide +kernel
theorem dX3_pair_68 : decode cX3_pair 68 = .ok (.athrow, 1) := by decide +kernel
theorem dX3_pair_69 : decode cX3_pair 69 = .ok (.aload_n 3, 1) := by decide +kernel
theorem dX3_pair_70 : decode cX3_pair 70 = .ok (.iload_n 2, 1) := by decide +kernel
theorem dX3_pair_71 : decode cX3_pair 71 = .ok (.invokevirtual 161, 3) := by decide +kernel
theorem dX3_pair_74 : decode cX3_pair 74 = .ok (.ireturn, 1) := by decide +kernel
theorem dX3_paired_0 : decode cX3_paired 0 = .ok (.aload_n 0, 1) := by decide +kernel
theorem dX3_paired_1 : decode cX3_paired 1 = .ok (.iload_n 1, 1) := by decide +kernel
theorem dX3_paired_2 : decode cX3_paired 2 = .ok (.invokevirtual 85, 3) := by decide +kernel
theorem dX3_paired_5 : decode cX3_paired 5 = .ok (.aload_n 0, 1) := by decide +kernel
theorem dX3_paired_6 : decode cX3_paired 6 = .ok (.iload_n 2, 1) := by decide +kernel
theorem dX3_paired_7 : decode cX3_paired 7 = .ok (.invokevirtual 85, 3) := by decide +kernel
theorem dX3_paired_10 : decode cX3_paired 10 = .ok (.aload_n 0, 1) := by decide +kernel
theorem dX3_paired_11 : decode cX3_paired 11 = .ok (.iload_n 1, 1) := by decide +kernel
theorem dX3_paired_12 : decode cX3_paired 12 = .ok (.iload_n 2, 1) := by decide +kernel
theorem dX3_paired_13 : decode cX3_paired 13 = .ok (.invokevirtual 113, 3) := by decide +kernel
theorem dX3_paired_16 : decode cX3_paired 16 = .ok (.ireturn, 1) := by decide +kernel
theorem dX3_overlapping_0 : decode cX3_overlapping 0 = .ok (.aload_n 0, 1) := by decide +kernel
theorem dX3_overlapping_1 : decode cX3_overlapping 1 = .ok (.invokevirtual 58, 3) := by decide +kernel
theorem dX3_overlapping_4 : decode cX3_overlapping 4 = .ok (.aload_n 0, 1) := by decide +kernel
theorem dX3_overlapping_5 : decode cX3_overlapping 5 = .ok (.iconst 0, 1) := by decide +kernel
theorem dX3_overlapping_6 : decode cX3_overlapping 6 = .ok (.putfield 165, 3) := by decide +kernel
theorem dX3_overlapping_9 : decode cX3_overlapping 9 = .ok (.iconst 0, 1) := by decide +kernel
theorem dX3_overlapping_10 : decode cX3_overlapping 10 = .ok (.istore_n 2, 1) := by decide +kernel
theorem dX3_overlapping_11 : decode cX3_overlapping 11 = .ok (.iload_n 2, 1) := by decide +kernel
theorem dX3_overlapping_12 : decode cX3_overlapping 12 = .ok (.sipush 512, 3) := by decide +kernel
theorem dX3_overlapping_15 : decode cX3_overlapping 15 = .ok (.if_icmp .ge 52, 3) := by decide +kernel
theorem dX3_overlapping_18 : decode cX3_overlapping 18 = .ok (.aload_n 0, 1) := by decide +kernel
theorem dX3_overlapping_19 : decode cX3_overlapping 19 = .ok (.getfield 18, 3) := by decide +kernel
theorem dX3_overlapping_22 : decode cX3_overlapping 22 = .ok (.iload_n 2, 1) := by decide +kernel
theorem dX3_overlapping_23 : decode cX3_overlapping 23 = .ok (.aaload, 1) := by decide +kernel
theorem dX3_overlapping_24 : decode cX3_overlapping 24 = .ok (.astore_n 3, 1) := by decide +kernel
theorem dX3_overlapping_25 : decode cX3_overlapping 25 = .ok (.aload_n 3, 1) := by decide +kernel
theorem dX3_overlapping_26 : decode cX3_overlapping 26 = .ok (.getfield 101, 3) := by decide +kernel
theorem dX3_overlapping_29 : decode cX3_overlapping 29 = .ok (.ifCond .eq 32, 3) := by decide +kernel
theorem dX3_overlapping_32 : decode cX3_overlapping 32 = .ok (.aload_n 3, 1) := by decide +kernel
theorem dX3_overlapping_33 : decode cX3_overlapping 33 = .ok (.getfield 168, 3) := by decide +kernel
theorem dX3_overlapping_36 : decode cX3_overlapping 36 = .ok (.iload_n 1, 1) := by decide +kernel
theorem dX3_overlapping_37 : decode cX3_overlapping 37 = .ok (.iand, 1) := by decide +kernel
theorem dX3_overlapping_38 : decode cX3_overlapping 38 = .ok (.ifCond .eq 23, 3) := by decide +kernel
theorem dX3_overlapping_41 : decode cX3_overlapping 41 = .ok (.aload_n 3, 1) := by decide +kernel
theorem dX3_overlapping_42 : decode cX3_overlapping 42 = .ok (.getfield 171, 3) := by decide +kernel
theorem dX3_overlapping_45 : decode cX3_overlapping 45 = .ok (.aload_n 0, 1) := by decide +kernel
theorem dX3_overlapping_46 : decode cX3_overlapping 46 = .ok (.getfield 10, 3) := by decide +kernel
theorem dX3_overlapping_49 : decode cX3_overlapping 49 = .ok (.invokevirtual 174, 3) := by decide +kernel
theorem dX3_overlapping_52 : decode cX3_overlapping 52 = .ok (.ifCond .eq 9, 3) := by decide +kernel
theorem dX3_overlapping_55 : decode cX3_overlapping 55 = .ok (.aload_n 0, 1) := by decide +kernel
theorem dX3_overlapping_56 : decode cX3_overlapping 56 = .ok (.iload_n 2, 1) := by decide +kernel
theorem dX3_overlapping_57 : decode cX3_overlapping 57 = .ok (.fconst 0, 1) := by decide +kernel
theorem dX3_overlapping_58 : decode cX3_overlapping 58 = .ok (.invokevirtual 178, 3) := by decide +kernel
theorem dX3_overlapping_61 : decode cX3_overlapping 61 = .ok (.iinc 2 1, 3) := by decide +kernel
theorem dX3_overlapping_64 : decode cX3_overlapping 64 = .ok (.goto (-53), 3) := by decide +kernel
theorem dX3_overlapping_67 : decode cX3_overlapping 67 = .ok (.aload_n 0, 1) := by decide +kernel
theorem dX3_overlapping_68 : decode cX3_overlapping 68 = .ok (.getfield 165, 3) := by decide +kernel
theorem dX3_overlapping_71 : decode cX3_overlapping 71 = .ok (.ireturn, 1) := by decide +kernel
theorem dX3_meeting_0 : decode cX3_meeting 0 = .ok (.aload_n 0, 1) := by decide +kernel
theorem dX3_meeting_1 : decode cX3_meeting 1 = .ok (.iconst 0, 1) := by decide +kernel
theorem dX3_meeting_2 : decode cX3_meeting 2 = .ok (.putfield 165, 3) := by decide +kernel
theorem dX3_meeting_5 : decode cX3_meeting 5 = .ok (.iconst 0, 1) := by decide +kernel
theorem dX3_meeting_6 : decode cX3_meeting 6 = .ok (.istore_n 2, 1) := by decide +kernel
theorem dX3_meeting_7 : decode cX3_meeting 7 = .ok (.iload_n 2, 1) := by decide +kernel
theorem dX3_meeting_8 : decode cX3_meeting 8 = .ok (.sipush 512, 3) := by decide +kernel
theorem dX3_meeting_11 : decode cX3_meeting 11 = .ok (.if_icmp .ge 60, 3) := by decide +kernel
theorem dX3_meeting_14 : decode cX3_meeting 14 = .ok (.aload_n 0, 1) := by decide +kernel
theorem dX3_meeting_15 : decode cX3_meeting 15 = .ok (.getfield 18, 3) := by decide +kernel
theorem dX3_meeting_18 : decode cX3_meeting 18 = .ok (.iload_n 2, 1) := by decide +kernel
theorem dX3_meeting_19 : decode cX3_meeting 19 = .ok (.aaload, 1) := by decide +kernel
theorem dX3_meeting_20 : decode cX3_meeting 20 = .ok (.astore_n 3, 1) := by decide +kernel
theorem dX3_meeting_21 : decode cX3_meeting 21 = .ok (.aload_n 3, 1) := by decide +kernel
theorem dX3_meeting_22 : decode cX3_meeting 22 = .ok (.getfield 101, 3) := by decide +kernel
theorem dX3_meeting_25 : decode cX3_meeting 25 = .ok (.ifCond .eq 40, 3) := by decide +kernel
theorem dX3_meeting_28 : decode cX3_meeting 28 = .ok (.aload_n 3, 1) := by decide +kernel
theorem dX3_meeting_29 : decode cX3_meeting 29 = .ok (.getfield 168, 3) := by decide +kernel
theorem dX3_meeting_32 : decode cX3_meeting 32 = .ok (.iload_n 1, 1) := by decide +kernel
theorem dX3_meeting_33 : decode cX3_meeting 33 = .ok (.iand, 1) := by decide +kernel
theorem dX3_meeting_34 : decode cX3_meeting 34 = .ok (.ifCond .eq 31, 3) := by decide +kernel
theorem dX3_meeting_37 : decode cX3_meeting 37 = .ok (.aload_n 3, 1) := by decide +kernel
theorem dX3_meeting_38 : decode cX3_meeting 38 = .ok (.getfield 171, 3) := by decide +kernel
theorem dX3_meeting_41 : decode cX3_meeting 41 = .ok (.aload_n 0, 1) := by decide +kernel
theorem dX3_meeting_42 : decode cX3_meeting 42 = .ok (.getfield 10, 3) := by decide +kernel
theorem dX3_meeting_45 : decode cX3_meeting 45 = .ok (.invokevirtual 182, 3) := by decide +kernel
theorem dX3_meeting_48 : decode cX3_meeting 48 = .ok (.fstore 4, 2) := by decide +kernel
theorem dX3_meeting_50 : decode cX3_meeting 50 = .ok (.fload 4, 2) := by decide +kernel
theorem dX3_meeting_52 : decode cX3_meeting 52 = .ok (.ldc 186, 2) := by decide +kernel
theorem dX3_meeting_54 : decode cX3_meeting 54 = .ok (.fcmp .l, 1) := by decide +kernel
theorem dX3_meeting_55 : decode cX3_meeting 55 = .ok (.ifCond .eq 10, 3) := by decide +kernel
theorem dX3_meeting_58 : decode cX3_meeting 58 = .ok (.aload_n 0, 1) := by decide +kernel
theorem dX3_meeting_59 : decode cX3_meeting 59 = .ok (.iload_n 2, 1) := by decide +kernel
theorem dX3_meeting_60 : decode cX3_meeting 60 = .ok (.fload 4, 2) := by decide +kernel
theorem dX3_meeting_62 : decode cX3_meeting 62 = .ok (.invokevirtual 178, 3) := by decide +kernel
theorem dX3_meeting_65 : decode cX3_meeting 65 = .ok (.iinc 2 1, 3) := by decide +kernel
theorem dX3_meeting_68 : decode cX3_meeting 68 = .ok (.goto (-61), 3) := by decide +kernel
theorem dX3_meeting_71 : decode cX3_meeting 71 = .ok (.aload_n 0, 1) := by decide +kernel
theorem dX3_meeting_72 : decode cX3_meeting 72 = .ok (.getfield 165, 3) := by decide +kernel
theorem dX3_meeting_75 : decode cX3_meeting 75 = .ok (.ireturn, 1) := by decide +kernel
theorem dX3_found_0 : decode cX3_found 0 = .ok (.aload_n 0, 1) := by decide +kernel
theorem dX3_found_1 : decode cX3_found 1 = .ok (.iload_n 1, 1) := by decide +kernel
theorem dX3_found_2 : decode cX3_found 2 = .ok (.invokevirtual 187, 3) := by decide +kernel
theorem dX3_found_5 : decode cX3_found 5 = .ok (.aload_n 0, 1) := by decide +kernel
theorem dX3_found_6 : decode cX3_found 6 = .ok (.getfield 39, 3) := by decide +kernel
theorem dX3_found_9 : decode cX3_found 9 = .ok (.iload_n 1, 1) := by decide +kernel
theorem dX3_found_10 : decode cX3_found 10 = .ok (.iaload, 1) := by decide +kernel
theorem dX3_found_11 : decode cX3_found 11 = .ok (.ireturn, 1) := by decide +kernel
theorem dX3_where_0 : decode cX3_where 0 = .ok (.aload_n 0, 1) := by decide +kernel
theorem dX3_where_1 : decode cX3_where 1 = .ok (.iload_n 1, 1) := by decide +kernel
theorem dX3_where_2 : decode cX3_where 2 = .ok (.invokevirtual 187, 3) := by decide +kernel
theorem dX3_where_5 : decode cX3_where 5 = .ok (.aload_n 0, 1) := by decide +kernel
theorem dX3_where_6 : decode cX3_where 6 = .ok (.getfield 43, 3) := by decide +kernel
theorem dX3_where_9 : decode cX3_where 9 = .ok (.iload_n 1, 1) := by decide +kernel
theorem dX3_where_10 : decode cX3_where 10 = .ok (.faload, 1) := by decide +kernel
theorem dX3_where_11 : decode cX3_where 11 = .ok (.freturn, 1) := by decide +kernel
theorem dX3_nearest_0 : decode cX3_nearest 0 = .ok (.aload_n 0, 1) := by decide +kernel
theorem dX3_nearest_1 : decode cX3_nearest 1 = .ok (.getfield 165, 3) := by decide +kernel
theorem dX3_nearest_4 : decode cX3_nearest 4 = .ok (.ifCond .ne 5, 3) := by decide +kernel
theorem dX3_nearest_7 : decode cX3_nearest 7 = .ok (.iconst (-1), 1) := by decide +kernel
theorem dX3_nearest_8 : decode cX3_nearest 8 = .ok (.ireturn, 1) := by decide +kernel
theorem dX3_nearest_9 : decode cX3_nearest 9 = .ok (.iconst 0, 1) := by decide +kernel
theorem dX3_nearest_10 : decode cX3_nearest 10 = .ok (.istore_n 1, 1) := by decide +kernel
theorem dX3_nearest_11 : decode cX3_nearest 11 = .ok (.iconst 1, 1) := by decide +kernel
theorem dX3_nearest_12 : decode cX3_nearest 12 = .ok (.istore_n 2, 1) := by decide +kernel
theorem dX3_nearest_13 : decode cX3_nearest 13 = .ok (.iload_n 2, 1) := by decide +kernel
theorem dX3_nearest_14 : decode cX3_nearest 14 = .ok (.aload_n 0, 1) := by decide +kernel
theorem dX3_nearest_15 : decode cX3_nearest 15 = .ok (.getfield 165, 3) := by decide +kernel
theorem dX3_nearest_18 : decode cX3_nearest 18 = .ok (.if_icmp .ge 27, 3) := by decide +kernel
theorem dX3_nearest_21 : decode cX3_nearest 21 = .ok (.aload_n 0, 1) := by decide +kernel
theorem dX3_nearest_22 : decode cX3_nearest 22 = .ok (.getfield 43, 3) := by decide +kernel
theorem dX3_nearest_25 : decode cX3_nearest 25 = .ok (.iload_n 2, 1) := by decide +kernel
theorem dX3_nearest_26 : decode cX3_nearest 26 = .ok (.faload, 1) := by decide +kernel
theorem dX3_nearest_27 : decode cX3_nearest 27 = .ok (.aload_n 0, 1) := by decide +kernel
theorem dX3_nearest_28 : decode cX3_nearest 28 = .ok (.getfield 43, 3) := by decide +kernel
theorem dX3_nearest_31 : decode cX3_nearest 31 = .ok (.iload_n 1, 1) := by decide +kernel
theorem dX3_nearest_32 : decode cX3_nearest 32 = .ok (.faload, 1) := by decide +kernel
theorem dX3_nearest_33 : decode cX3_nearest 33 = .ok (.fcmp .g, 1) := by decide +kernel
theorem dX3_nearest_34 : decode cX3_nearest 34 = .ok (.ifCond .ge 5, 3) := by decide +kernel
theorem dX3_nearest_37 : decode cX3_nearest 37 = .ok (.iload_n 2, 1) := by decide +kernel
theorem dX3_nearest_38 : decode cX3_nearest 38 = .ok (.istore_n 1, 1) := by decide +kernel
theorem dX3_nearest_39 : decode cX3_nearest 39 = .ok (.iinc 2 1, 3) := by decide +kernel
theorem dX3_nearest_42 : decode cX3_nearest 42 = .ok (.goto (-29), 3) := by decide +kernel
theorem dX3_nearest_45 : decode cX3_nearest 45 = .ok (.aload_n 0, 1) := by decide +kernel
theorem dX3_nearest_46 : decode cX3_nearest 46 = .ok (.getfield 39, 3) := by decide +kernel
theorem dX3_nearest_49 : decode cX3_nearest 49 = .ok (.iload_n 1, 1) := by decide +kernel
theorem dX3_nearest_50 : decode cX3_nearest 50 = .ok (.iaload, 1) := by decide +kernel
theorem dX3_nearest_51 : decode cX3_nearest 51 = .ok (.ireturn, 1) := by decide +kernel
theorem dX3_corner_0 : decode cX3_corner 0 = .ok (.aload_n 0, 1) := by decide +kernel
theorem dX3_corner_1 : decode cX3_corner 1 = .ok (.iload_n 1, 1) := by decide +kernel
theorem dX3_corner_2 : decode cX3_corner 2 = .ok (.invokevirtual 85, 3) := by decide +kernel
theorem dX3_corner_5 : decode cX3_corner 5 = .ok (.iload_n 2, 1) := by decide +kernel
theorem dX3_corner_6 : decode cX3_corner 6 = .ok (.ifCond .lt 9, 3) := by decide +kernel
theorem dX3_corner_9 : decode cX3_corner 9 = .ok (.iload_n 2, 1) := by decide +kernel
theorem dX3_corner_10 : decode cX3_corner 10 = .ok (.bipush 12, 2) := by decide +kernel
theorem dX3_corner_12 : decode cX3_corner 12 = .ok (.if_icmp .lt 13, 3) := by decide +kernel
theorem dX3_corner_15 : decode cX3_corner 15 = .ok (.new 96, 3) := by decide +kernel
theorem dX3_corner_18 : decode cX3_corner 18 = .ok (.dup, 1) := by decide +kernel
theorem dX3_corner_19 : decode cX3_corner 19 = .ok (.ldc 190, 2) := by decide +kernel
theorem dX3_corner_21 : decode cX3_corner 21 = .ok (.invokespecial 100, 3) := by decide +kernel
theorem dX3_corner_24 : decode cX3_corner 24 = .ok (.athrow, 1) := by decide +kernel
theorem dX3_corner_25 : decode cX3_corner 25 = .ok (.iload_n 2, 1) := by decide +kernel
theorem dX3_corner_26 : decode cX3_corner 26 = .ok (.bipush 6, 2) := by decide +kernel
theorem dX3_corner_28 : decode cX3_corner 28 = .ok (.if_icmp .ge 18, 3) := by decide +kernel
theorem dX3_corner_31 : decode cX3_corner 31 = .ok (.aload_n 0, 1) := by decide +kernel
theorem dX3_corner_32 : decode cX3_corner 32 = .ok (.getfield 18, 3) := by decide +kernel
theorem dX3_corner_35 : decode cX3_corner 35 = .ok (.iload_n 1, 1) := by decide +kernel
theorem dX3_corner_36 : decode cX3_corner 36 = .ok (.aaload, 1) := by decide +kernel
theorem dX3_corner_37 : decode cX3_corner 37 = .ok (.getfield 171, 3) := by decide +kernel
theorem dX3_corner_40 : decode cX3_corner 40 = .ok (.getfield 192, 3) := by decide +kernel
theorem dX3_corner_43 : decode cX3_corner 43 = .ok (.iload_n 2, 1) := by decide +kernel
theorem dX3_corner_44 : decode cX3_corner 44 = .ok (.faload, 1) := by decide +kernel
theorem dX3_corner_45 : decode cX3_corner 45 = .ok (.freturn, 1) := by decide +kernel
theorem dX3_corner_46 : decode cX3_corner 46 = .ok (.aload_n 0, 1) := by decide +kernel
theorem dX3_corner_47 : decode cX3_corner 47 = .ok (.getfield 18, 3) := by decide +kernel
theorem dX3_corner_50 : decode cX3_corner 50 = .ok (.iload_n 1, 1) := by decide +kernel
theorem dX3_corner_51 : decode cX3_corner 51 = .ok (.aaload, 1) := by decide +kernel
theorem dX3_corner_52 : decode cX3_corner 52 = .ok (.getfield 195, 3) := by decide +kernel
theorem dX3_corner_55 : decode cX3_corner 55 = .ok (.getfield 192, 3) := by decide +kernel
theorem dX3_corner_58 : decode cX3_corner 58 = .ok (.iload_n 2, 1) := by decide +kernel
theorem dX3_corner_59 : decode cX3_corner 59 = .ok (.bipush 6, 2) := by decide +kernel
theorem dX3_corner_61 : decode cX3_corner 61 = .ok (.isub, 1) := by decide +kernel
theorem dX3_corner_62 : decode cX3_corner 62 = .ok (.faload, 1) := by decide +kernel
theorem dX3_corner_63 : decode cX3_corner 63 = .ok (.freturn, 1) := by decide +kernel
theorem dX3_about_0 : decode cX3_about 0 = .ok (.aload_n 0, 1) := by decide +kernel
theorem dX3_about_1 : decode cX3_about 1 = .ok (.iload_n 1, 1) := by decide +kernel
theorem dX3_about_2 : decode cX3_about 2 = .ok (.invokevirtual 85, 3) := by decide +kernel
theorem dX3_about_5 : decode cX3_about 5 = .ok (.iload_n 2, 1) := by decide +kernel
theorem dX3_about_6 : decode cX3_about 6 = .ok (.tableswitch 74 0 3 #[30, 40, 50, 56], 30) := by decide +kernel
theorem dX3_about_36 : decode cX3_about 36 = .ok (.aload_n 0, 1) := by decide +kernel
theorem dX3_about_37 : decode cX3_about 37 = .ok (.getfield 18, 3) := by decide +kernel
theorem dX3_about_40 : decode cX3_about 40 = .ok (.iload_n 1, 1) := by decide +kernel
theorem dX3_about_41 : decode cX3_about 41 = .ok (.aaload, 1) := by decide +kernel
theorem dX3_about_42 : decode cX3_about 42 = .ok (.getfield 168, 3) := by decide +kernel
theorem dX3_about_45 : decode cX3_about 45 = .ok (.ireturn, 1) := by decide +kernel
theorem dX3_about_46 : decode cX3_about 46 = .ok (.aload_n 0, 1) := by decide +kernel
theorem dX3_about_47 : decode cX3_about 47 = .ok (.getfield 18, 3) := by decide +kernel
theorem dX3_about_50 : decode cX3_about 50 = .ok (.iload_n 1, 1) := by decide +kernel
theorem dX3_about_51 : decode cX3_about 51 = .ok (.aaload, 1) := by decide +kernel
theorem dX3_about_52 : decode cX3_about 52 = .ok (.getfield 198, 3) := by decide +kernel
theorem dX3_about_55 : decode cX3_about 55 = .ok (.ireturn, 1) := by decide +kernel
theorem dX3_about_56 : decode cX3_about 56 = .ok (.aload_n 0, 1) := by decide +kernel
theorem dX3_about_57 : decode cX3_about 57 = .ok (.iload_n 1, 1) := by decide +kernel
theorem dX3_about_58 : decode cX3_about 58 = .ok (.invokevirtual 201, 3) := by decide +kernel
theorem dX3_about_61 : decode cX3_about 61 = .ok (.ireturn, 1) := by decide +kernel
theorem dX3_about_62 : decode cX3_about 62 = .ok (.aload_n 0, 1) := by decide +kernel
theorem dX3_about_63 : decode cX3_about 63 = .ok (.getfield 18, 3) := by decide +kernel
theorem dX3_about_66 : decode cX3_about 66 = .ok (.iload_n 1, 1) := by decide +kernel
theorem dX3_about_67 : decode cX3_about 67 = .ok (.aaload, 1) := by decide +kernel
theorem dX3_about_68 : decode cX3_about 68 = .ok (.getfield 136, 3) := by decide +kernel
theorem dX3_about_71 : decode cX3_about 71 = .ok (.ifCond .eq 7, 3) := by decide +kernel
theorem dX3_about_74 : decode cX3_about 74 = .ok (.iconst 1, 1) := by decide +kernel
theorem dX3_about_75 : decode cX3_about 75 = .ok (.goto 4, 3) := by decide +kernel
theorem dX3_about_78 : decode cX3_about 78 = .ok (.iconst 0, 1) := by decide +kernel
theorem dX3_about_79 : decode cX3_about 79 = .ok (.ireturn, 1) := by decide +kernel
theorem dX3_about_80 : decode cX3_about 80 = .ok (.new 96, 3) := by decide +kernel
theorem dX3_about_83 : decode cX3_about 83 = .ok (.dup, 1) := by decide +kernel
theorem dX3_about_84 : decode cX3_about 84 = .ok (.ldc 204, 2) := by decide +kernel
theorem dX3_about_86 : decode cX3_about 86 = .ok (.invokespecial 100, 3) := by decide +kernel
theorem dX3_about_89 : decode cX3_about 89 = .ok (.athrow, 1) := by decide +kernel
theorem dX3_count_0 : decode cX3_count 0 = .ok (.iload_n 1, 1) := by decide +kernel
theorem dX3_count_1 : decode cX3_count 1 = .ok (.tableswitch 87 0 6 #[43, 48, 56, 64, 72, 77, 82], 43) := by decide +kernel
theorem dX3_count_44 : decode cX3_count 44 = .ok (.aload_n 0, 1) := by decide +kernel
theorem dX3_count_45 : decode cX3_count 45 = .ok (.getfield 128, 3) := by decide +kernel
theorem dX3_count_48 : decode cX3_count 48 = .ok (.ireturn, 1) := by decide +kernel
theorem dX3_count_49 : decode cX3_count 49 = .ok (.aload_n 0, 1) := by decide +kernel
theorem dX3_count_50 : decode cX3_count 50 = .ok (.getfield 26, 3) := by decide +kernel
theorem dX3_count_53 : decode cX3_count 53 = .ok (.getfield 142, 3) := by decide +kernel
theorem dX3_count_56 : decode cX3_count 56 = .ok (.ireturn, 1) := by decide +kernel
theorem dX3_count_57 : decode cX3_count 57 = .ok (.aload_n 0, 1) := by decide +kernel
theorem dX3_count_58 : decode cX3_count 58 = .ok (.getfield 33, 3) := by decide +kernel
theorem dX3_count_61 : decode cX3_count 61 = .ok (.getfield 142, 3) := by decide +kernel
theorem dX3_count_64 : decode cX3_count 64 = .ok (.ireturn, 1) := by decide +kernel
theorem dX3_count_65 : decode cX3_count 65 = .ok (.aload_n 0, 1) := by decide +kernel
theorem dX3_count_66 : decode cX3_count 66 = .ok (.getfield 36, 3) := by decide +kernel
theorem dX3_count_69 : decode cX3_count 69 = .ok (.getfield 142, 3) := by decide +kernel
theorem dX3_count_72 : decode cX3_count 72 = .ok (.ireturn, 1) := by decide +kernel
theorem dX3_count_73 : decode cX3_count 73 = .ok (.aload_n 0, 1) := by decide +kernel
theorem dX3_count_74 : decode cX3_count 74 = .ok (.getfield 154, 3) := by decide +kernel
theorem dX3_count_77 : decode cX3_count 77 = .ok (.ireturn, 1) := by decide +kernel
theorem dX3_count_78 : decode cX3_count 78 = .ok (.aload_n 0, 1) := by decide +kernel
theorem dX3_count_79 : decode cX3_count 79 = .ok (.invokevirtual 206, 3) := by decide +kernel
theorem dX3_count_82 : decode cX3_count 82 = .ok (.ireturn, 1) := by decide +kernel
theorem dX3_count_83 : decode cX3_count 83 = .ok (.aload_n 0, 1) := by decide +kernel
theorem dX3_count_84 : decode cX3_count 84 = .ok (.getfield 165, 3) := by decide +kernel
theorem dX3_count_87 : decode cX3_count 87 = .ok (.ireturn, 1) := by decide +kernel
theorem dX3_count_88 : decode cX3_count 88 = .ok (.new 96, 3) := by decide +kernel
theorem dX3_count_91 : decode cX3_count 91 = .ok (.dup, 1) := by decide +kernel
theorem dX3_count_92 : decode cX3_count 92 = .ok (.ldc 210, 2) := by decide +kernel
theorem dX3_count_94 : decode cX3_count 94 = .ok (.invokespecial 100, 3) := by decide +kernel
theorem dX3_count_97 : decode cX3_count 97 = .ok (.athrow, 1) := by decide +kernel
theorem dX3_requireGood_0 : decode cX3_requireGood 0 = .ok (.fload_n 0, 1) := by decide +kernel
theorem dX3_requireGood_1 : decode cX3_requireGood 1 = .ok (.sipush 16384, 3) := by decide +kernel
theorem dX3_requireGood_4 : decode cX3_requireGood 4 = .ok (.invokestatic 212, 3) := by decide +kernel
theorem dX3_requireGood_7 : decode cX3_requireGood 7 = .ok (.ifCond .eq 23, 3) := by decide +kernel
theorem dX3_requireGood_10 : decode cX3_requireGood 10 = .ok (.fload_n 1, 1) := by decide +kernel
theorem dX3_requireGood_11 : decode cX3_requireGood 11 = .ok (.sipush 16384, 3) := by decide +kernel
theorem dX3_requireGood_14 : decode cX3_requireGood 14 = .ok (.invokestatic 212, 3) := by decide +kernel
theorem dX3_requireGood_17 : decode cX3_requireGood 17 = .ok (.ifCond .eq 13, 3) := by decide +kernel
theorem dX3_requireGood_20 : decode cX3_requireGood 20 = .ok (.fload_n 2, 1) := by decide +kernel
theorem dX3_requireGood_21 : decode cX3_requireGood 21 = .ok (.sipush 16384, 3) := by decide +kernel
theorem dX3_requireGood_24 : decode cX3_requireGood 24 = .ok (.invokestatic 212, 3) := by decide +kernel
theorem dX3_requireGood_27 : decode cX3_requireGood 27 = .ok (.ifCond .ne 13, 3) := by decide +kernel
theorem dX3_requireGood_30 : decode cX3_requireGood 30 = .ok (.new 69, 3) := by decide +kernel
theorem dX3_requireGood_33 : decode cX3_requireGood 33 = .ok (.dup, 1) := by decide +kernel
theorem dX3_requireGood_34 : decode cX3_requireGood 34 = .ok (.ldc 216, 2) := by decide +kernel
theorem dX3_requireGood_36 : decode cX3_requireGood 36 = .ok (.invokespecial 73, 3) := by decide +kernel
theorem dX3_requireGood_39 : decode cX3_requireGood 39 = .ok (.athrow, 1) := by decide +kernel
theorem dX3_requireGood_40 : decode cX3_requireGood 40 = .ok (.return_, 1) := by decide +kernel
theorem dX3_requireMovement_0 : decode cX3_requireMovement 0 = .ok (.fload_n 0, 1) := by decide +kernel
theorem dX3_requireMovement_1 : decode cX3_requireMovement 1 = .ok (.sipush 256, 3) := by decide +kernel
theorem dX3_requireMovement_4 : decode cX3_requireMovement 4 = .ok (.invokestatic 212, 3) := by decide +kernel
theorem dX3_requireMovement_7 : decode cX3_requireMovement 7 = .ok (.ifCond .eq 23, 3) := by decide +kernel
theorem dX3_requireMovement_10 : decode cX3_requireMovement 10 = .ok (.fload_n 1, 1) := by decide +kernel
theorem dX3_requireMovement_11 : decode cX3_requireMovement 11 = .ok (.sipush 256, 3) := by decide +kernel
theorem dX3_requireMovement_14 : decode cX3_requireMovement 14 = .ok (.invokestatic 212, 3) := by decide +kernel
theorem dX3_requireMovement_17 : decode cX3_requireMovement 17 = .ok (.ifCond .eq 13, 3) := by decide +kernel
theorem dX3_requireMovement_20 : decode cX3_requireMovement 20 = .ok (.fload_n 2, 1) := by decide +kernel
theorem dX3_requireMovement_21 : decode cX3_requireMovement 21 = .ok (.sipush 256, 3) := by decide +kernel
theorem dX3_requireMovement_24 : decode cX3_requireMovement 24 = .ok (.invokestatic 212, 3) := by decide +kernel
theorem dX3_requireMovement_27 : decode cX3_requireMovement 27 = .ok (.ifCond .ne 13, 3) := by decide +kernel
theorem dX3_requireMovement_30 : decode cX3_requireMovement 30 = .ok (.new 69, 3) := by decide +kernel
theorem dX3_requireMovement_33 : decode cX3_requireMovement 33 = .ok (.dup, 1) := by decide +kernel
theorem dX3_requireMovement_34 : decode cX3_requireMovement 34 = .ok (.ldc 218, 2) := by decide +kernel
theorem dX3_requireMovement_36 : decode cX3_requireMovement 36 = .ok (.invokespecial 73, 3) := by decide +kernel
theorem dX3_requireMovement_39 : decode cX3_requireMovement 39 = .ok (.athrow, 1) := by decide +kernel
theorem dX3_requireMovement_40 : decode cX3_requireMovement 40 = .ok (.return_, 1) := by decide +kernel
theorem dX3_requirePadIsBox_0 : decode cX3_requirePadIsBox 0 = .ok (.aload_n 0, 1) := by decide +kernel
theorem dX3_requirePadIsBox_1 : decode cX3_requirePadIsBox 1 = .ok (.getfield 10, 3) := by decide +kernel
theorem dX3_requirePadIsBox_4 : decode cX3_requirePadIsBox 4 = .ok (.invokevirtual 220, 3) := by decide +kernel
theorem dX3_requirePadIsBox_7 : decode cX3_requirePadIsBox 7 = .ok (.ifCond .ne 13, 3) := by decide +kernel
theorem dX3_requirePadIsBox_10 : decode cX3_requirePadIsBox 10 = .ok (.new 69, 3) := by decide +kernel
theorem dX3_requirePadIsBox_13 : decode cX3_requirePadIsBox 13 = .ok (.dup, 1) := by decide +kernel
theorem dX3_requirePadIsBox_14 : decode cX3_requirePadIsBox 14 = .ok (.ldc 224, 2) := by decide +kernel
theorem dX3_requirePadIsBox_16 : decode cX3_requirePadIsBox 16 = .ok (.invokespecial 73, 3) := by decide +kernel
theorem dX3_requirePadIsBox_19 : decode cX3_requirePadIsBox 19 = .ok (.athrow, 1) := by decide +kernel
theorem dX3_requirePadIsBox_20 : decode cX3_requirePadIsBox 20 = .ok (.return_, 1) := by decide +kernel
theorem dX3_requireRoomFor_0 : decode cX3_requireRoomFor 0 = .ok (.sipush 512, 3) := by decide +kernel
theorem dX3_requireRoomFor_3 : decode cX3_requireRoomFor 3 = .ok (.aload_n 0, 1) := by decide +kernel
theorem dX3_requireRoomFor_4 : decode cX3_requireRoomFor 4 = .ok (.getfield 128, 3) := by decide +kernel
theorem dX3_requireRoomFor_7 : decode cX3_requireRoomFor 7 = .ok (.isub, 1) := by decide +kernel
theorem dX3_requireRoomFor_8 : decode cX3_requireRoomFor 8 = .ok (.iload_n 1, 1) := by decide +kernel
theorem dX3_requireRoomFor_9 : decode cX3_requireRoomFor 9 = .ok (.if_icmp .ge 13, 3) := by decide +kernel
theorem dX3_requireRoomFor_12 : decode cX3_requireRoomFor 12 = .ok (.new 145, 3) := by decide +kernel
theorem dX3_requireRoomFor_15 : decode cX3_requireRoomFor 15 = .ok (.dup, 1) := by decide +kernel
theorem dX3_requireRoomFor_16 : decode cX3_requireRoomFor 16 = .ok (.ldc 226, 2) := by decide +kernel
theorem dX3_requireRoomFor_18 : decode cX3_requireRoomFor 18 = .ok (.invokespecial 149, 3) := by decide +kernel
theorem dX3_requireRoomFor_21 : decode cX3_requireRoomFor 21 = .ok (.athrow, 1) := by decide +kernel
theorem dX3_requireRoomFor_22 : decode cX3_requireRoomFor 22 = .ok (.return_, 1) := by decide +kernel
theorem dX3_requireThere_0 : decode cX3_requireThere 0 = .ok (.iload_n 1, 1) := by decide +kernel
theorem dX3_requireThere_1 : decode cX3_requireThere 1 = .ok (.invokestatic 92, 3) := by decide +kernel
theorem dX3_requireThere_4 : decode cX3_requireThere 4 = .ok (.ifCond .eq 15, 3) := by decide +kernel
theorem dX3_requireThere_7 : decode cX3_requireThere 7 = .ok (.aload_n 0, 1) := by decide +kernel
theorem dX3_requireThere_8 : decode cX3_requireThere 8 = .ok (.getfield 18, 3) := by decide +kernel
theorem dX3_requireThere_11 : decode cX3_requireThere 11 = .ok (.iload_n 1, 1) := by decide +kernel
theorem dX3_requireThere_12 : decode cX3_requireThere 12 = .ok (.aaload, 1) := by decide +kernel
theorem dX3_requireThere_13 : decode cX3_requireThere 13 = .ok (.getfield 101, 3) := by decide +kernel
theorem dX3_requireThere_16 : decode cX3_requireThere 16 = .ok (.ifCond .ne 13, 3) := by decide +kernel
theorem dX3_requireThere_19 : decode cX3_requireThere 19 = .ok (.new 96, 3) := by decide +kernel
theorem dX3_requireThere_22 : decode cX3_requireThere 22 = .ok (.dup, 1) := by decide +kernel
theorem dX3_requireThere_23 : decode cX3_requireThere 23 = .ok (.ldc 228, 2) := by decide +kernel
theorem dX3_requireThere_25 : decode cX3_requireThere 25 = .ok (.invokespecial 100, 3) := by decide +kernel
theorem dX3_requireThere_28 : decode cX3_requireThere 28 = .ok (.athrow, 1) := by decide +kernel
theorem dX3_requireThere_29 : decode cX3_requireThere 29 = .ok (.return_, 1) := by decide +kernel
theorem dX3_requireFound_0 : decode cX3_requireFound 0 = .ok (.iload_n 1, 1) := by decide +kernel
theorem dX3_requireFound_1 : decode cX3_requireFound 1 = .ok (.ifCond .lt 11, 3) := by decide +kernel
theorem dX3_requireFound_4 : decode cX3_requireFound 4 = .ok (.iload_n 1, 1) := by decide +kernel
theorem dX3_requireFound_5 : decode cX3_requireFound 5 = .ok (.aload_n 0, 1) := by decide +kernel
theorem dX3_requireFound_6 : decode cX3_requireFound 6 = .ok (.getfield 165, 3) := by decide +kernel
theorem dX3_requireFound_9 : decode cX3_requireFound 9 = .ok (.if_icmp .lt 13, 3) := by decide +kernel
theorem dX3_requireFound_12 : decode cX3_requireFound 12 = .ok (.new 96, 3) := by decide +kernel
theorem dX3_requireFound_15 : decode cX3_requireFound 15 = .ok (.dup, 1) := by decide +kernel
theorem dX3_requireFound_16 : decode cX3_requireFound 16 = .ok (.ldc 230, 2) := by decide +kernel
theorem dX3_requireFound_18 : decode cX3_requireFound 18 = .ok (.invokespecial 100, 3) := by decide +kernel
theorem dX3_requireFound_21 : decode cX3_requireFound 21 = .ok (.athrow, 1) := by decide +kernel
theorem dX3_requireFound_22 : decode cX3_requireFound 22 = .ok (.return_, 1) := by decide +kernel
theorem dX3_isWithin_0 : decode cX3_isWithin 0 = .ok (.fload_n 0, 1) := by decide +kernel
theorem dX3_isWithin_1 : decode cX3_isWithin 1 = .ok (.iload_n 1, 1) := by decide +kernel
theorem dX3_isWithin_2 : decode cX3_isWithin 2 = .ok (.ineg, 1) := by decide +kernel
theorem dX3_isWithin_3 : decode cX3_isWithin 3 = .ok (.i2f, 1) := by decide +kernel
theorem dX3_isWithin_4 : decode cX3_isWithin 4 = .ok (.fcmp .l, 1) := by decide +kernel
theorem dX3_isWithin_5 : decode cX3_isWithin 5 = .ok (.ifCond .lt 14, 3) := by decide +kernel
theorem dX3_isWithin_8 : decode cX3_isWithin 8 = .ok (.fload_n 0, 1) := by decide +kernel
theorem dX3_isWithin_9 : decode cX3_isWithin 9 = .ok (.iload_n 1, 1) := by decide +kernel
theorem dX3_isWithin_10 : decode cX3_isWithin 10 = .ok (.i2f, 1) := by decide +kernel
theorem dX3_isWithin_11 : decode cX3_isWithin 11 = .ok (.fcmp .g, 1) := by decide +kernel
theorem dX3_isWithin_12 : decode cX3_isWithin 12 = .ok (.ifCond .gt 7, 3) := by decide +kernel
theorem dX3_isWithin_15 : decode cX3_isWithin 15 = .ok (.iconst 1, 1) := by decide +kernel
theorem dX3_isWithin_16 : decode cX3_isWithin 16 = .ok (.goto 4, 3) := by decide +kernel
theorem dX3_isWithin_19 : decode cX3_isWithin 19 = .ok (.iconst 0, 1) := by decide +kernel
theorem dX3_isWithin_20 : decode cX3_isWithin 20 = .ok (.ireturn, 1) := by decide +kernel
theorem dX3_isBodyNumber_0 : decode cX3_isBodyNumber 0 = .ok (.iload_n 0, 1) := by decide +kernel
theorem dX3_isBodyNumber_1 : decode cX3_isBodyNumber 1 = .ok (.ifCond .lt 14, 3) := by decide +kernel
theorem dX3_isBodyNumber_4 : decode cX3_isBodyNumber 4 = .ok (.iload_n 0, 1) := by decide +kernel
theorem dX3_isBodyNumber_5 : decode cX3_isBodyNumber 5 = .ok (.sipush 512, 3) := by decide +kernel
theorem dX3_isBodyNumber_8 : decode cX3_isBodyNumber 8 = .ok (.if_icmp .ge 7, 3) := by decide +kernel
theorem dX3_isBodyNumber_11 : decode cX3_isBodyNumber 11 = .ok (.iconst 1, 1) := by decide +kernel
theorem dX3_isBodyNumber_12 : decode cX3_isBodyNumber 12 = .ok (.goto 4, 3) := by decide +kernel
theorem dX3_isBodyNumber_15 : decode cX3_isBodyNumber 15 = .ok (.iconst 0, 1) := by decide +kernel
theorem dX3_isBodyNumber_16 : decode cX3_isBodyNumber 16 = .ok (.ireturn, 1) := by decide +kernel
theorem dX3_rowStaysGood_0 : decode cX3_rowStaysGood 0 = .ok (.aload_n 0, 1) := by decide +kernel
theorem dX3_rowStaysGood_1 : decode cX3_rowStaysGood 1 = .ok (.getfield 47, 3) := by decide +kernel
theorem dX3_rowStaysGood_4 : decode cX3_rowStaysGood 4 = .ok (.aload_n 0, 1) := by decide +kernel
theorem dX3_rowStaysGood_5 : decode cX3_rowStaysGood 5 = .ok (.getfield 10, 3) := by decide +kernel
theorem dX3_rowStaysGood_8 : decode cX3_rowStaysGood 8 = .ok (.invokevirtual 232, 3) := by decide +kernel
theorem dX3_rowStaysGood_11 : decode cX3_rowStaysGood 11 = .ok (.iconst 1, 1) := by decide +kernel
theorem dX3_rowStaysGood_12 : decode cX3_rowStaysGood 12 = .ok (.istore 5, 2) := by decide +kernel
theorem dX3_rowStaysGood_14 : decode cX3_rowStaysGood 14 = .ok (.iload 5, 2) := by decide +kernel
theorem dX3_rowStaysGood_16 : decode cX3_rowStaysGood 16 = .ok (.iload_n 1, 1) := by decide +kernel
theorem dX3_rowStaysGood_17 : decode cX3_rowStaysGood 17 = .ok (.if_icmp .ge 32, 3) := by decide +kernel
theorem dX3_rowStaysGood_20 : decode cX3_rowStaysGood 20 = .ok (.aload_n 0, 1) := by decide +kernel
theorem dX3_rowStaysGood_21 : decode cX3_rowStaysGood 21 = .ok (.getfield 47, 3) := by decide +kernel
theorem dX3_rowStaysGood_24 : decode cX3_rowStaysGood 24 = .ok (.fload_n 2, 1) := by decide +kernel
theorem dX3_rowStaysGood_25 : decode cX3_rowStaysGood 25 = .ok (.fload_n 3, 1) := by decide +kernel
theorem dX3_rowStaysGood_26 : decode cX3_rowStaysGood 26 = .ok (.fload 4, 2) := by decide +kernel
theorem dX3_rowStaysGood_28 : decode cX3_rowStaysGood 28 = .ok (.invokevirtual 235, 3) := by decide +kernel
theorem dX3_rowStaysGood_31 : decode cX3_rowStaysGood 31 = .ok (.aload_n 0, 1) := by decide +kernel
theorem dX3_rowStaysGood_32 : decode cX3_rowStaysGood 32 = .ok (.getfield 47, 3) := by decide +kernel
theorem dX3_rowStaysGood_35 : decode cX3_rowStaysGood 35 = .ok (.invokevirtual 238, 3) := by decide +kernel
theorem dX3_rowStaysGood_38 : decode cX3_rowStaysGood 38 = .ok (.ifCond .ne 5, 3) := by decide +kernel
theorem dX3_rowStaysGood_41 : decode cX3_rowStaysGood 41 = .ok (.iconst 0, 1) := by decide +kernel
theorem dX3_rowStaysGood_42 : decode cX3_rowStaysGood 42 = .ok (.ireturn, 1) := by decide +kernel
theorem dX3_rowStaysGood_43 : decode cX3_rowStaysGood 43 = .ok (.iinc 5 1, 3) := by decide +kernel
theorem dX3_rowStaysGood_46 : decode cX3_rowStaysGood 46 = .ok (.goto (-32), 3) := by decide +kernel
theorem dX3_rowStaysGood_49 : decode cX3_rowStaysGood 49 = .ok (.iconst 1, 1) := by decide +kernel
theorem dX3_rowStaysGood_50 : decode cX3_rowStaysGood 50 = .ok (.ireturn, 1) := by decide +kernel
theorem dX3_addBodies_0 : decode cX3_addBodies 0 = .ok (.aload_n 0, 1) := by decide +kernel
theorem dX3_addBodies_1 : decode cX3_addBodies 1 = .ok (.getfield 47, 3) := by decide +kernel
theorem dX3_addBodies_4 : decode cX3_addBodies 4 = .ok (.aload_n 0, 1) := by decide +kernel
theorem dX3_addBodies_5 : decode cX3_addBodies 5 = .ok (.getfield 10, 3) := by decide +kernel
theorem dX3_addBodies_8 : decode cX3_addBodies 8 = .ok (.invokevirtual 232, 3) := by decide +kernel
theorem dX3_addBodies_11 : decode cX3_addBodies 11 = .ok (.iconst (-1), 1) := by decide +kernel
theorem dX3_addBodies_12 : decode cX3_addBodies 12 = .ok (.istore 7, 2) := by decide +kernel
theorem dX3_addBodies_14 : decode cX3_addBodies 14 = .ok (.iconst 0, 1) := by decide +kernel
theorem dX3_addBodies_15 : decode cX3_addBodies 15 = .ok (.istore 8, 2) := by decide +kernel
theorem dX3_addBodies_17 : decode cX3_addBodies 17 = .ok (.iconst 0, 1) := by decide +kernel
theorem dX3_addBodies_18 : decode cX3_addBodies 18 = .ok (.istore 9, 2) := by decide +kernel
theorem dX3_addBodies_20 : decode cX3_addBodies 20 = .ok (.iload 9, 2) := by decide +kernel
theorem dX3_addBodies_22 : decode cX3_addBodies 22 = .ok (.sipush 512, 3) := by decide +kernel
theorem dX3_addBodies_25 : decode cX3_addBodies 25 = .ok (.if_icmp .ge 69, 3) := by decide +kernel
theorem dX3_addBodies_28 : decode cX3_addBodies 28 = .ok (.iload 8, 2) := by decide +kernel
theorem dX3_addBodies_30 : decode cX3_addBodies 30 = .ok (.iload_n 1, 1) := by decide +kernel
theorem dX3_addBodies_31 : decode cX3_addBodies 31 = .ok (.if_icmp .ge 63, 3) := by decide +kernel
theorem dX3_addBodies_34 : decode cX3_addBodies 34 = .ok (.aload_n 0, 1) := by decide +kernel
theorem dX3_addBodies_35 : decode cX3_addBodies 35 = .ok (.getfield 18, 3) := by decide +kernel
theorem dX3_addBodies_38 : decode cX3_addBodies 38 = .ok (.iload 9, 2) := by decide +kernel
theorem dX3_addBodies_40 : decode cX3_addBodies 40 = .ok (.aaload, 1) := by decide +kernel
theorem dX3_addBodies_41 : decode cX3_addBodies 41 = .ok (.getfield 101, 3) := by decide +kernel
theorem dX3_addBodies_44 : decode cX3_addBodies 44 = .ok (.ifCond .ne 44, 3) := by decide +kernel
theorem dX3_addBodies_47 : decode cX3_addBodies 47 = .ok (.iload 8, 2) := by decide +kernel
theorem dX3_addBodies_49 : decode cX3_addBodies 49 = .ok (.ifCond .le 14, 3) := by decide +kernel
theorem dX3_addBodies_52 : decode cX3_addBodies 52 = .ok (.aload_n 0, 1) := by decide +kernel
theorem dX3_addBodies_53 : decode cX3_addBodies 53 = .ok (.getfield 47, 3) := by decide +kernel
theorem dX3_addBodies_56 : decode cX3_addBodies 56 = .ok (.fload_n 2, 1) := by decide +kernel
theorem dX3_addBodies_57 : decode cX3_addBodies 57 = .ok (.fload_n 3, 1) := by decide +kernel
theorem dX3_addBodies_58 : decode cX3_addBodies 58 = .ok (.fload 4, 2) := by decide +kernel
theorem dX3_addBodies_60 : decode cX3_addBodies 60 = .ok (.invokevirtual 235, 3) := by decide +kernel
theorem dX3_addBodies_63 : decode cX3_addBodies 63 = .ok (.aload_n 0, 1) := by decide +kernel
theorem dX3_addBodies_64 : decode cX3_addBodies 64 = .ok (.getfield 18, 3) := by decide +kernel
theorem dX3_addBodies_67 : decode cX3_addBodies 67 = .ok (.iload 9, 2) := by decide +kernel
theorem dX3_addBodies_69 : decode cX3_addBodies 69 = .ok (.aaload, 1) := by decide +kernel
theorem dX3_addBodies_70 : decode cX3_addBodies 70 = .ok (.aload_n 0, 1) := by decide +kernel
theorem dX3_addBodies_71 : decode cX3_addBodies 71 = .ok (.getfield 47, 3) := by decide +kernel
theorem dX3_addBodies_74 : decode cX3_addBodies 74 = .ok (.iload 5, 2) := by decide +kernel
theorem dX3_addBodies_76 : decode cX3_addBodies 76 = .ok (.iload 6, 2) := by decide +kernel
theorem dX3_addBodies_78 : decode cX3_addBodies 78 = .ok (.invokevirtual 241, 3) := by decide +kernel
theorem dX3_addBodies_81 : decode cX3_addBodies 81 = .ok (.iload 9, 2) := by decide +kernel
theorem dX3_addBodies_83 : decode cX3_addBodies 83 = .ok (.istore 7, 2) := by decide +kernel
theorem dX3_addBodies_85 : decode cX3_addBodies 85 = .ok (.iinc 8 1, 3) := by decide +kernel
theorem dX3_addBodies_88 : decode cX3_addBodies 88 = .ok (.iinc 9 1, 3) := by decide +kernel
theorem dX3_addBodies_91 : decode cX3_addBodies 91 = .ok (.goto (-71), 3) := by decide +kernel
theorem dX3_addBodies_94 : decode cX3_addBodies 94 = .ok (.aload_n 0, 1) := by decide +kernel
theorem dX3_addBodies_95 : decode cX3_addBodies 95 = .ok (.dup, 1) := by decide +kernel
theorem dX3_addBodies_96 : decode cX3_addBodies 96 = .ok (.getfield 128, 3) := by decide +kernel
theorem dX3_addBodies_99 : decode cX3_addBodies 99 = .ok (.iload 8, 2) := by decide +kernel
theorem dX3_addBodies_101 : decode cX3_addBodies 101 = .ok (.iadd, 1) := by decide +kernel
theorem dX3_addBodies_102 : decode cX3_addBodies 102 = .ok (.putfield 128, 3) := by decide +kernel
theorem dX3_addBodies_105 : decode cX3_addBodies 105 = .ok (.iload 7, 2) := by decide +kernel
theorem dX3_addBodies_107 : decode cX3_addBodies 107 = .ok (.ireturn, 1) := by decide +kernel
theorem dX3_shiftBody_0 : decode cX3_shiftBody 0 = .ok (.aload_n 0, 1) := by decide +kernel
theorem dX3_shiftBody_1 : decode cX3_shiftBody 1 = .ok (.getfield 47, 3) := by decide +kernel
theorem dX3_shiftBody_4 : decode cX3_shiftBody 4 = .ok (.aload_n 1, 1) := by decide +kernel
theorem dX3_shiftBody_5 : decode cX3_shiftBody 5 = .ok (.getfield 195, 3) := by decide +kernel
theorem dX3_shiftBody_8 : decode cX3_shiftBody 8 = .ok (.invokevirtual 232, 3) := by decide +kernel
theorem dX3_shiftBody_11 : decode cX3_shiftBody 11 = .ok (.aload_n 0, 1) := by decide +kernel
theorem dX3_shiftBody_12 : decode cX3_shiftBody 12 = .ok (.getfield 47, 3) := by decide +kernel
theorem dX3_shiftBody_15 : decode cX3_shiftBody 15 = .ok (.fload_n 2, 1) := by decide +kernel
theorem dX3_shiftBody_16 : decode cX3_shiftBody 16 = .ok (.fload_n 3, 1) := by decide +kernel
theorem dX3_shiftBody_17 : decode cX3_shiftBody 17 = .ok (.fload 4, 2) := by decide +kernel
theorem dX3_shiftBody_19 : decode cX3_shiftBody 19 = .ok (.invokevirtual 235, 3) := by decide +kernel
theorem dX3_shiftBody_22 : decode cX3_shiftBody 22 = .ok (.aload_n 0, 1) := by decide +kernel
theorem dX3_shiftBody_23 : decode cX3_shiftBody 23 = .ok (.getfield 47, 3) := by decide +kernel
theorem dX3_shiftBody_26 : decode cX3_shiftBody 26 = .ok (.invokevirtual 238, 3) := by decide +kernel
theorem dX3_shiftBody_29 : decode cX3_shiftBody 29 = .ok (.ifCond .eq 22, 3) := by decide +kernel
theorem dX3_shiftBody_32 : decode cX3_shiftBody 32 = .ok (.aload_n 1, 1) := by decide +kernel
theorem dX3_shiftBody_33 : decode cX3_shiftBody 33 = .ok (.aload_n 0, 1) := by decide +kernel
theorem dX3_shiftBody_34 : decode cX3_shiftBody 34 = .ok (.getfield 47, 3) := by decide +kernel
theorem dX3_shiftBody_37 : decode cX3_shiftBody 37 = .ok (.fload_n 2, 1) := by decide +kernel
theorem dX3_shiftBody_38 : decode cX3_shiftBody 38 = .ok (.fload_n 3, 1) := by decide +kernel
theorem dX3_shiftBody_39 : decode cX3_shiftBody 39 = .ok (.fload 4, 2) := by decide +kernel
theorem dX3_shiftBody_41 : decode cX3_shiftBody 41 = .ok (.invokevirtual 88, 3) := by decide +kernel
theorem dX3_shiftBody_44 : decode cX3_shiftBody 44 = .ok (.ifCond .eq 7, 3) := by decide +kernel
theorem dX3_shiftBody_47 : decode cX3_shiftBody 47 = .ok (.iconst 1, 1) := by decide +kernel
theorem dX3_shiftBody_48 : decode cX3_shiftBody 48 = .ok (.goto 4, 3) := by decide +kernel
theorem dX3_shiftBody_51 : decode cX3_shiftBody 51 = .ok (.iconst 0, 1) := by decide +kernel
theorem dX3_shiftBody_52 : decode cX3_shiftBody 52 = .ok (.ireturn, 1) := by decide +kernel
theorem dX3_reviewPairsOf_0 : decode cX3_reviewPairsOf 0 = .ok (.aload_n 0, 1) := by decide +kernel
theorem dX3_reviewPairsOf_1 : decode cX3_reviewPairsOf 1 = .ok (.getfield 18, 3) := by decide +kernel
theorem dX3_reviewPairsOf_4 : decode cX3_reviewPairsOf 4 = .ok (.iload_n 1, 1) := by decide +kernel
theorem dX3_reviewPairsOf_5 : decode cX3_reviewPairsOf 5 = .ok (.aaload, 1) := by decide +kernel
theorem dX3_reviewPairsOf_6 : decode cX3_reviewPairsOf 6 = .ok (.astore_n 2, 1) := by decide +kernel
theorem dX3_reviewPairsOf_7 : decode cX3_reviewPairsOf 7 = .ok (.iconst 0, 1) := by decide +kernel
theorem dX3_reviewPairsOf_8 : decode cX3_reviewPairsOf 8 = .ok (.istore_n 3, 1) := by decide +kernel
theorem dX3_reviewPairsOf_9 : decode cX3_reviewPairsOf 9 = .ok (.iload_n 3, 1) := by decide +kernel
theorem dX3_reviewPairsOf_10 : decode cX3_reviewPairsOf 10 = .ok (.sipush 512, 3) := by decide +kernel
theorem dX3_reviewPairsOf_13 : decode cX3_reviewPairsOf 13 = .ok (.if_icmp .ge 65, 3) := by decide +kernel
theorem dX3_reviewPairsOf_16 : decode cX3_reviewPairsOf 16 = .ok (.iload_n 3, 1) := by decide +kernel
theorem dX3_reviewPairsOf_17 : decode cX3_reviewPairsOf 17 = .ok (.iload_n 1, 1) := by decide +kernel
theorem dX3_reviewPairsOf_18 : decode cX3_reviewPairsOf 18 = .ok (.if_icmp .ge 19, 3) := by decide +kernel
theorem dX3_reviewPairsOf_21 : decode cX3_reviewPairsOf 21 = .ok (.aload_n 0, 1) := by decide +kernel
theorem dX3_reviewPairsOf_22 : decode cX3_reviewPairsOf 22 = .ok (.getfield 18, 3) := by decide +kernel
theorem dX3_reviewPairsOf_25 : decode cX3_reviewPairsOf 25 = .ok (.iload_n 3, 1) := by decide +kernel
theorem dX3_reviewPairsOf_26 : decode cX3_reviewPairsOf 26 = .ok (.aaload, 1) := by decide +kernel
theorem dX3_reviewPairsOf_27 : decode cX3_reviewPairsOf 27 = .ok (.getfield 136, 3) := by decide +kernel
theorem dX3_reviewPairsOf_30 : decode cX3_reviewPairsOf 30 = .ok (.ifCond .eq 7, 3) := by decide +kernel
theorem dX3_reviewPairsOf_33 : decode cX3_reviewPairsOf 33 = .ok (.iconst 1, 1) := by decide +kernel
theorem dX3_reviewPairsOf_34 : decode cX3_reviewPairsOf 34 = .ok (.goto 4, 3) := by decide +kernel
theorem dX3_reviewPairsOf_37 : decode cX3_reviewPairsOf 37 = .ok (.iconst 0, 1) := by decide +kernel
theorem dX3_reviewPairsOf_38 : decode cX3_reviewPairsOf 38 = .ok (.istore 4, 2) := by decide +kernel
theorem dX3_reviewPairsOf_40 : decode cX3_reviewPairsOf 40 = .ok (.iload_n 3, 1) := by decide +kernel
theorem dX3_reviewPairsOf_41 : decode cX3_reviewPairsOf 41 = .ok (.iload_n 1, 1) := by decide +kernel
theorem dX3_reviewPairsOf_42 : decode cX3_reviewPairsOf 42 = .ok (.if_icmp .eq 30, 3) := by decide +kernel
theorem dX3_reviewPairsOf_45 : decode cX3_reviewPairsOf 45 = .ok (.iload 4, 2) := by decide +kernel
theorem dX3_reviewPairsOf_47 : decode cX3_reviewPairsOf 47 = .ok (.ifCond .ne 25, 3) := by decide +kernel
theorem dX3_reviewPairsOf_50 : decode cX3_reviewPairsOf 50 = .ok (.aload_n 0, 1) := by decide +kernel
theorem dX3_reviewPairsOf_51 : decode cX3_reviewPairsOf 51 = .ok (.getfield 30, 3) := by decide +kernel
theorem dX3_reviewPairsOf_54 : decode cX3_reviewPairsOf 54 = .ok (.iload_n 1, 1) := by decide +kernel
theorem dX3_reviewPairsOf_55 : decode cX3_reviewPairsOf 55 = .ok (.iload_n 3, 1) := by decide +kernel
theorem dX3_reviewPairsOf_56 : decode cX3_reviewPairsOf 56 = .ok (.invokestatic 117, 3) := by decide +kernel
theorem dX3_reviewPairsOf_59 : decode cX3_reviewPairsOf 59 = .ok (.aload_n 2, 1) := by decide +kernel
theorem dX3_reviewPairsOf_60 : decode cX3_reviewPairsOf 60 = .ok (.aload_n 0, 1) := by decide +kernel
theorem dX3_reviewPairsOf_61 : decode cX3_reviewPairsOf 61 = .ok (.getfield 18, 3) := by decide +kernel
theorem dX3_reviewPairsOf_64 : decode cX3_reviewPairsOf 64 = .ok (.iload_n 3, 1) := by decide +kernel
theorem dX3_reviewPairsOf_65 : decode cX3_reviewPairsOf 65 = .ok (.aaload, 1) := by decide +kernel
theorem dX3_reviewPairsOf_66 : decode cX3_reviewPairsOf 66 = .ok (.invokevirtual 245, 3) := by decide +kernel
theorem dX3_reviewPairsOf_69 : decode cX3_reviewPairsOf 69 = .ok (.invokevirtual 121, 3) := by decide +kernel
theorem dX3_reviewPairsOf_72 : decode cX3_reviewPairsOf 72 = .ok (.iinc 3 1, 3) := by decide +kernel
theorem dX3_reviewPairsOf_75 : decode cX3_reviewPairsOf 75 = .ok (.goto (-66), 3) := by decide +kernel
theorem dX3_reviewPairsOf_78 : decode cX3_reviewPairsOf 78 = .ok (.return_, 1) := by decide +kernel
theorem dX3_arePair_0 : decode cX3_arePair 0 = .ok (.iload_n 1, 1) := by decide +kernel
theorem dX3_arePair_1 : decode cX3_arePair 1 = .ok (.iload_n 2, 1) := by decide +kernel
theorem dX3_arePair_2 : decode cX3_arePair 2 = .ok (.if_icmp .eq 22, 3) := by decide +kernel
theorem dX3_arePair_5 : decode cX3_arePair 5 = .ok (.aload_n 0, 1) := by decide +kernel
theorem dX3_arePair_6 : decode cX3_arePair 6 = .ok (.getfield 26, 3) := by decide +kernel
theorem dX3_arePair_9 : decode cX3_arePair 9 = .ok (.iload_n 1, 1) := by decide +kernel
theorem dX3_arePair_10 : decode cX3_arePair 10 = .ok (.iload_n 2, 1) := by decide +kernel
theorem dX3_arePair_11 : decode cX3_arePair 11 = .ok (.invokestatic 117, 3) := by decide +kernel
theorem dX3_arePair_14 : decode cX3_arePair 14 = .ok (.invokevirtual 249, 3) := by decide +kernel
theorem dX3_arePair_17 : decode cX3_arePair 17 = .ok (.ifCond .eq 7, 3) := by decide +kernel
theorem dX3_arePair_20 : decode cX3_arePair 20 = .ok (.iconst 1, 1) := by decide +kernel
theorem dX3_arePair_21 : decode cX3_arePair 21 = .ok (.goto 4, 3) := by decide +kernel
theorem dX3_arePair_24 : decode cX3_arePair 24 = .ok (.iconst 0, 1) := by decide +kernel
theorem dX3_arePair_25 : decode cX3_arePair 25 = .ok (.ireturn, 1) := by decide +kernel
theorem dX3_pairCode_0 : decode cX3_pairCode 0 = .ok (.iload_n 0, 1) := by decide +kernel
theorem dX3_pairCode_1 : decode cX3_pairCode 1 = .ok (.iload_n 1, 1) := by decide +kernel
theorem dX3_pairCode_2 : decode cX3_pairCode 2 = .ok (.if_icmp .ge 13, 3) := by decide +kernel
theorem dX3_pairCode_5 : decode cX3_pairCode 5 = .ok (.iload_n 0, 1) := by decide +kernel
theorem dX3_pairCode_6 : decode cX3_pairCode 6 = .ok (.sipush 512, 3) := by decide +kernel
theorem dX3_pairCode_9 : decode cX3_pairCode 9 = .ok (.imul, 1) := by decide +kernel
theorem dX3_pairCode_10 : decode cX3_pairCode 10 = .ok (.iload_n 1, 1) := by decide +kernel
theorem dX3_pairCode_11 : decode cX3_pairCode 11 = .ok (.iadd, 1) := by decide +kernel
theorem dX3_pairCode_12 : decode cX3_pairCode 12 = .ok (.goto 10, 3) := by decide +kernel
theorem dX3_pairCode_15 : decode cX3_pairCode 15 = .ok (.iload_n 1, 1) := by decide +kernel
theorem dX3_pairCode_16 : decode cX3_pairCode 16 = .ok (.sipush 512, 3) := by decide +kernel
theorem dX3_pairCode_19 : decode cX3_pairCode 19 = .ok (.imul, 1) := by decide +kernel
theorem dX3_pairCode_20 : decode cX3_pairCode 20 = .ok (.iload_n 0, 1) := by decide +kernel
theorem dX3_pairCode_21 : decode cX3_pairCode 21 = .ok (.iadd, 1) := by decide +kernel
theorem dX3_pairCode_22 : decode cX3_pairCode 22 = .ok (.ireturn, 1) := by decide +kernel
theorem dX3_pairsOf_0 : decode cX3_pairsOf 0 = .ok (.iconst 0, 1) := by decide +kernel
theorem dX3_pairsOf_1 : decode cX3_pairsOf 1 = .ok (.istore_n 2, 1) := by decide +kernel
theorem dX3_pairsOf_2 : decode cX3_pairsOf 2 = .ok (.iconst 0, 1) := by decide +kernel
theorem dX3_pairsOf_3 : decode cX3_pairsOf 3 = .ok (.istore_n 3, 1) := by decide +kernel
theorem dX3_pairsOf_4 : decode cX3_pairsOf 4 = .ok (.iload_n 3, 1) := by decide +kernel
theorem dX3_pairsOf_5 : decode cX3_pairsOf 5 = .ok (.sipush 512, 3) := by decide +kernel
theorem dX3_pairsOf_8 : decode cX3_pairsOf 8 = .ok (.if_icmp .ge 21, 3) := by decide +kernel
theorem dX3_pairsOf_11 : decode cX3_pairsOf 11 = .ok (.aload_n 0, 1) := by decide +kernel
theorem dX3_pairsOf_12 : decode cX3_pairsOf 12 = .ok (.iload_n 1, 1) := by decide +kernel
theorem dX3_pairsOf_13 : decode cX3_pairsOf 13 = .ok (.iload_n 3, 1) := by decide +kernel
theorem dX3_pairsOf_14 : decode cX3_pairsOf 14 = .ok (.invokevirtual 113, 3) := by decide +kernel
theorem dX3_pairsOf_17 : decode cX3_pairsOf 17 = .ok (.ifCond .eq 6, 3) := by decide +kernel
theorem dX3_pairsOf_20 : decode cX3_pairsOf 20 = .ok (.iinc 2 1, 3) := by decide +kernel
theorem dX3_pairsOf_23 : decode cX3_pairsOf 23 = .ok (.iinc 3 1, 3) := by decide +kernel
theorem dX3_pairsOf_26 : decode cX3_pairsOf 26 = .ok (.goto (-22), 3) := by decide +kernel
theorem dX3_pairsOf_29 : decode cX3_pairsOf 29 = .ok (.iload_n 2, 1) := by decide +kernel
theorem dX3_pairsOf_30 : decode cX3_pairsOf 30 = .ok (.ireturn, 1) := by decide +kernel
theorem dX3_touchedBodies_0 : decode cX3_touchedBodies 0 = .ok (.iconst 0, 1) := by decide +kernel
theorem dX3_touchedBodies_1 : decode cX3_touchedBodies 1 = .ok (.istore_n 1, 1) := by decide +kernel
theorem dX3_touchedBodies_2 : decode cX3_touchedBodies 2 = .ok (.iconst 0, 1) := by decide +kernel
theorem dX3_touchedBodies_3 : decode cX3_touchedBodies 3 = .ok (.istore_n 2, 1) := by decide +kernel
theorem dX3_touchedBodies_4 : decode cX3_touchedBodies 4 = .ok (.iload_n 2, 1) := by decide +kernel
theorem dX3_touchedBodies_5 : decode cX3_touchedBodies 5 = .ok (.sipush 512, 3) := by decide +kernel
theorem dX3_touchedBodies_8 : decode cX3_touchedBodies 8 = .ok (.if_icmp .ge 24, 3) := by decide +kernel
theorem dX3_touchedBodies_11 : decode cX3_touchedBodies 11 = .ok (.aload_n 0, 1) := by decide +kernel
theorem dX3_touchedBodies_12 : decode cX3_touchedBodies 12 = .ok (.getfield 18, 3) := by decide +kernel
theorem dX3_touchedBodies_15 : decode cX3_touchedBodies 15 = .ok (.iload_n 2, 1) := by decide +kernel
theorem dX3_touchedBodies_16 : decode cX3_touchedBodies 16 = .ok (.aaload, 1) := by decide +kernel
theorem dX3_touchedBodies_17 : decode cX3_touchedBodies 17 = .ok (.getfield 136, 3) := by decide +kernel
theorem dX3_touchedBodies_20 : decode cX3_touchedBodies 20 = .ok (.ifCond .eq 6, 3) := by decide +kernel
theorem dX3_touchedBodies_23 : decode cX3_touchedBodies 23 = .ok (.iinc 1 1, 3) := by decide +kernel
theorem dX3_touchedBodies_26 : decode cX3_touchedBodies 26 = .ok (.iinc 2 1, 3) := by decide +kernel
theorem dX3_touchedBodies_29 : decode cX3_touchedBodies 29 = .ok (.goto (-25), 3) := by decide +kernel
theorem dX3_touchedBodies_32 : decode cX3_touchedBodies 32 = .ok (.iload_n 1, 1) := by decide +kernel
theorem dX3_touchedBodies_33 : decode cX3_touchedBodies 33 = .ok (.ireturn, 1) := by decide +kernel
theorem dX3_appendFound_0 : decode cX3_appendFound 0 = .ok (.aload_n 0, 1) := by decide +kernel
theorem dX3_appendFound_1 : decode cX3_appendFound 1 = .ok (.getfield 165, 3) := by decide +kernel
theorem dX3_appendFound_4 : decode cX3_appendFound 4 = .ok (.sipush 512, 3) := by decide +kernel
theorem dX3_appendFound_7 : decode cX3_appendFound 7 = .ok (.if_icmp .ge 33, 3) := by decide +kernel
theorem dX3_appendFound_10 : decode cX3_appendFound 10 = .ok (.aload_n 0, 1) := by decide +kernel
theorem dX3_appendFound_11 : decode cX3_appendFound 11 = .ok (.getfield 39, 3) := by decide +kernel
theorem dX3_appendFound_14 : decode cX3_appendFound 14 = .ok (.aload_n 0, 1) := by decide +kernel
theorem dX3_appendFound_15 : decode cX3_appendFound 15 = .ok (.getfield 165, 3) := by decide +kernel
theorem dX3_appendFound_18 : decode cX3_appendFound 18 = .ok (.iload_n 1, 1) := by decide +kernel
theorem dX3_appendFound_19 : decode cX3_appendFound 19 = .ok (.iastore, 1) := by decide +kernel
theorem dX3_appendFound_20 : decode cX3_appendFound 20 = .ok (.aload_n 0, 1) := by decide +kernel
theorem dX3_appendFound_21 : decode cX3_appendFound 21 = .ok (.getfield 43, 3) := by decide +kernel
theorem dX3_appendFound_24 : decode cX3_appendFound 24 = .ok (.aload_n 0, 1) := by decide +kernel
theorem dX3_appendFound_25 : decode cX3_appendFound 25 = .ok (.getfield 165, 3) := by decide +kernel
theorem dX3_appendFound_28 : decode cX3_appendFound 28 = .ok (.fload_n 2, 1) := by decide +kernel
theorem dX3_appendFound_29 : decode cX3_appendFound 29 = .ok (.fastore, 1) := by decide +kernel
theorem dX3_appendFound_30 : decode cX3_appendFound 30 = .ok (.aload_n 0, 1) := by decide +kernel
theorem dX3_appendFound_31 : decode cX3_appendFound 31 = .ok (.dup, 1) := by decide +kernel
theorem dX3_appendFound_32 : decode cX3_appendFound 32 = .ok (.getfield 165, 3) := by decide +kernel
theorem dX3_appendFound_35 : decode cX3_appendFound 35 = .ok (.iconst 1, 1) := by decide +kernel
theorem dX3_appendFound_36 : decode cX3_appendFound 36 = .ok (.iadd, 1) := by decide +kernel
theorem dX3_appendFound_37 : decode cX3_appendFound 37 = .ok (.putfield 165, 3) := by decide +kernel
theorem dX3_appendFound_40 : decode cX3_appendFound 40 = .ok (.return_, 1) := by decide +kernel
theorem dJ13_bitCount_95d88_0 : decode cJ13_bitCount_95d88 0 = .ok (.lload_n 0, 1) := by decide +kernel
theorem dJ13_bitCount_95d88_1 : decode cJ13_bitCount_95d88 1 = .ok (.lload_n 0, 1) := by decide +kernel
theorem dJ13_bitCount_95d88_2 : decode cJ13_bitCount_95d88 2 = .ok (.iconst 1, 1) := by decide +kernel
theorem dJ13_bitCount_95d88_3 : decode cJ13_bitCount_95d88 3 = .ok (.lushr, 1) := by decide +kernel
theorem dJ13_bitCount_95d88_4 : decode cJ13_bitCount_95d88 4 = .ok (.ldc2_w 314, 3) := by decide +kernel
theorem dJ13_bitCount_95d88_7 : decode cJ13_bitCount_95d88 7 = .ok (.land, 1) := by decide +kernel
theorem dJ13_bitCount_95d88_8 : decode cJ13_bitCount_95d88 8 = .ok (.lsub, 1) := by decide +kernel
theorem dJ13_bitCount_95d88_9 : decode cJ13_bitCount_95d88 9 = .ok (.lstore_n 0, 1) := by decide +kernel
theorem dJ13_bitCount_95d88_10 : decode cJ13_bitCount_95d88 10 = .ok (.lload_n 0, 1) := by decide +kernel
theorem dJ13_bitCount_95d88_11 : decode cJ13_bitCount_95d88 11 = .ok (.ldc2_w 316, 3) := by decide +kernel
theorem dJ13_bitCount_95d88_14 : decode cJ13_bitCount_95d88 14 = .ok (.land, 1) := by decide +kernel
theorem dJ13_bitCount_95d88_15 : decode cJ13_bitCount_95d88 15 = .ok (.lload_n 0, 1) := by decide +kernel
theorem dJ13_bitCount_95d88_16 : decode cJ13_bitCount_95d88 16 = .ok (.iconst 2, 1) := by decide +kernel
theorem dJ13_bitCount_95d88_17 : decode cJ13_bitCount_95d88 17 = .ok (.lushr, 1) := by decide +kernel
theorem dJ13_bitCount_95d88_18 : decode cJ13_bitCount_95d88 18 = .ok (.ldc2_w 316, 3) := by decide +kernel
theorem dJ13_bitCount_95d88_21 : decode cJ13_bitCount_95d88 21 = .ok (.land, 1) := by decide +kernel
theorem dJ13_bitCount_95d88_22 : decode cJ13_bitCount_95d88 22 = .ok (.ladd, 1) := by decide +kernel
theorem dJ13_bitCount_95d88_23 : decode cJ13_bitCount_95d88 23 = .ok (.lstore_n 0, 1) := by decide +kernel
theorem dJ13_bitCount_95d88_24 : decode cJ13_bitCount_95d88 24 = .ok (.lload_n 0, 1) := by decide +kernel
theorem dJ13_bitCount_95d88_25 : decode cJ13_bitCount_95d88 25 = .ok (.lload_n 0, 1) := by decide +kernel
theorem dJ13_bitCount_95d88_26 : decode cJ13_bitCount_95d88 26 = .ok (.iconst 4, 1) := by decide +kernel
theorem dJ13_bitCount_95d88_27 : decode cJ13_bitCount_95d88 27 = .ok (.lushr, 1) := by decide +kernel
theorem dJ13_bitCount_95d88_28 : decode cJ13_bitCount_95d88 28 = .ok (.ladd, 1) := by decide +kernel
theorem dJ13_bitCount_95d88_29 : decode cJ13_bitCount_95d88 29 = .ok (.ldc2_w 318, 3) := by decide +kernel
theorem dJ13_bitCount_95d88_32 : decode cJ13_bitCount_95d88 32 = .ok (.land, 1) := by decide +kernel
theorem dJ13_bitCount_95d88_33 : decode cJ13_bitCount_95d88 33 = .ok (.lstore_n 0, 1) := by decide +kernel
theorem dJ13_bitCount_95d88_34 : decode cJ13_bitCount_95d88 34 = .ok (.lload_n 0, 1) := by decide +kernel
theorem dJ13_bitCount_95d88_35 : decode cJ13_bitCount_95d88 35 = .ok (.lload_n 0, 1) := by decide +kernel
theorem dJ13_bitCount_95d88_36 : decode cJ13_bitCount_95d88 36 = .ok (.bipush 8, 2) := by decide +kernel
theorem dJ13_bitCount_95d88_38 : decode cJ13_bitCount_95d88 38 = .ok (.lushr, 1) := by decide +kernel
theorem dJ13_bitCount_95d88_39 : decode cJ13_bitCount_95d88 39 = .ok (.ladd, 1) := by decide +kernel
theorem dJ13_bitCount_95d88_40 : decode cJ13_bitCount_95d88 40 = .ok (.lstore_n 0, 1) := by decide +kernel
theorem dJ13_bitCount_95d88_41 : decode cJ13_bitCount_95d88 41 = .ok (.lload_n 0, 1) := by decide +kernel
theorem dJ13_bitCount_95d88_42 : decode cJ13_bitCount_95d88 42 = .ok (.lload_n 0, 1) := by decide +kernel
theorem dJ13_bitCount_95d88_43 : decode cJ13_bitCount_95d88 43 = .ok (.bipush 16, 2) := by decide +kernel
theorem dJ13_bitCount_95d88_45 : decode cJ13_bitCount_95d88 45 = .ok (.lushr, 1) := by decide +kernel
theorem dJ13_bitCount_95d88_46 : decode cJ13_bitCount_95d88 46 = .ok (.ladd, 1) := by decide +kernel
theorem dJ13_bitCount_95d88_47 : decode cJ13_bitCount_95d88 47 = .ok (.lstore_n 0, 1) := by decide +kernel
theorem dJ13_bitCount_95d88_48 : decode cJ13_bitCount_95d88 48 = .ok (.lload_n 0, 1) := by decide +kernel
theorem dJ13_bitCount_95d88_49 : decode cJ13_bitCount_95d88 49 = .ok (.lload_n 0, 1) := by decide +kernel
theorem dJ13_bitCount_95d88_50 : decode cJ13_bitCount_95d88 50 = .ok (.bipush 32, 2) := by decide +kernel
theorem dJ13_bitCount_95d88_52 : decode cJ13_bitCount_95d88 52 = .ok (.lushr, 1) := by decide +kernel
theorem dJ13_bitCount_95d88_53 : decode cJ13_bitCount_95d88 53 = .ok (.ladd, 1) := by decide +kernel
theorem dJ13_bitCount_95d88_54 : decode cJ13_bitCount_95d88 54 = .ok (.lstore_n 0, 1) := by decide +kernel
theorem dJ13_bitCount_95d88_55 : decode cJ13_bitCount_95d88 55 = .ok (.lload_n 0, 1) := by decide +kernel
theorem dJ13_bitCount_95d88_56 : decode cJ13_bitCount_95d88 56 = .ok (.l2i, 1) := by decide +kernel
theorem dJ13_bitCount_95d88_57 : decode cJ13_bitCount_95d88 57 = .ok (.bipush 127, 2) := by decide +kernel
theorem dJ13_bitCount_95d88_59 : decode cJ13_bitCount_95d88 59 = .ok (.iand, 1) := by decide +kernel
theorem dJ13_bitCount_95d88_60 : decode cJ13_bitCount_95d88 60 = .ok (.ireturn, 1) := by decide +kernel
end
section
/-! The state of the whole system as one value, the memory that it stands for, contracts over it -/
def bI (b : Bool) : Int32 := if b then 1 else 0
theorem bI_0 {b : Bool} : bI b = 0 ↔ b = false := by cases b <;> decide
theorem bI_n0 {b : Bool} : ¬ bI b = 0 ↔ b = true := by cases b <;> decide
theorem bI_nar (b : Bool) : narrow .boolean (.int (bI b)) = .int (bI b) := by cases b <;> decide
theorem bI_fit (b : Bool) : fits .boolean (.int (bI b)) = true := by cases b <;> decide
theorem bI_inj {a b : Bool} (h : bI a = bI b) : a = b := by cases a <;> cases b <;> first | rfl | exact absurd h (by decide)
/-- addresses by kind and number; kind and number of an address; all addresses; what may change; array classes (F I J Z D Body); class numbers; slots -/
abbrev Gm : Type := (Nat → Nat → Nat) × (Nat → Nat × Nat) × List Nat × (Nat → Prop) × (Nat → ClassId) × (Nat → ClassId) × (Nat → Nat → Nat)
abbrev g_ad (G : Gm) : Nat → Nat → Nat := G.1
abbrev g_K (G : Gm) : Nat → Nat × Nat := G.2.1
abbrev g_L (G : Gm) : List Nat := G.2.2.1
abbrev g_A (G : Gm) : Nat → Prop := G.2.2.2.1
abbrev g_cy (G : Gm) : Nat → ClassId := G.2.2.2.2.1
abbrev g_dC (G : Gm) : Nat → ClassId := G.2.2.2.2.2.1
abbrev g_dI (G : Gm) : Nat → Nat → Nat := G.2.2.2.2.2.2
def g_ty (G : Gm) : List (ClassId × FieldType) := [(g_cy G 0, .float), (g_cy G 1, .int), (g_cy G 2, .long), (g_cy G 3, .boolean), (g_cy G 4, .double), (g_cy G 5, .object "PairFinder$Body")]
abbrev St : Type := (Nat → Nat → UInt32) × (Nat → Int32) × (Nat → Int32) × (Nat → Bool) × (Nat → Bool) × (Nat → Int32) × (Nat → Nat → Int64) × (Nat → Int32) × (Nat → UInt32) × (Nat → Int32) × (Nat × Nat) × (Nat → Nat → UInt32) × (Nat → Nat → Int32) × (Nat → Nat → Bool) × (Nat → Int32) × (Nat → Int64) × (Nat → UInt64)
def bxS (S : St) := S.1
def grS (S : St) := S.2.1
def mkS (S : St) := S.2.2.1
def thS (S : St) := S.2.2.2.1
def tcS (S : St) := S.2.2.2.2.1
def psS (S : St) := S.2.2.2.2.2.1
def pwS (S : St) := S.2.2.2.2.2.2.1
def fbS (S : St) := S.2.2.2.2.2.2.2.1
def ffS (S : St) := S.2.2.2.2.2.2.2.2.1
def nfS (S : St) := S.2.2.2.2.2.2.2.2.2.1
def ipS (S : St) := S.2.2.2.2.2.2.2.2.2.2.1
def mFS (S : St) := S.2.2.2.2.2.2.2.2.2.2.2.1
def mIS (S : St) := S.2.2.2.2.2.2.2.2.2.2.2.2.1
def mZS (S : St) := S.2.2.2.2.2.2.2.2.2.2.2.2.2.1
def mnS (S : St) := S.2.2.2.2.2.2.2.2.2.2.2.2.2.2.1
def ouS (S : St) := S.2.2.2.2.2.2.2.2.2.2.2.2.2.2.2.1
def odS (S : St) := S.2.2.2.2.2.2.2.2.2.2.2.2.2.2.2.2
def bxU (S : St) (v : Nat → Nat → UInt32) : St := (v, grS S, mkS S, thS S, tcS S, psS S, pwS S, fbS S, ffS S, nfS S, ipS S, mFS S, mIS S, mZS S, mnS S, ouS S, odS S)
def grU (S : St) (v : Nat → Int32) : St := (bxS S, v, mkS S, thS S, tcS S, psS S, pwS S, fbS S, ffS S, nfS S, ipS S, mFS S, mIS S, mZS S, mnS S, ouS S, odS S)
def mkU (S : St) (v : Nat → Int32) : St := (bxS S, grS S, v, thS S, tcS S, psS S, pwS S, fbS S, ffS S, nfS S, ipS S, mFS S, mIS S, mZS S, mnS S, ouS S, odS S)
def thU (S : St) (v : Nat → Bool) : St := (bxS S, grS S, mkS S, v, tcS S, psS S, pwS S, fbS S, ffS S, nfS S, ipS S, mFS S, mIS S, mZS S, mnS S, ouS S, odS S)
def tcU (S : St) (v : Nat → Bool) : St := (bxS S, grS S, mkS S, thS S, v, psS S, pwS S, fbS S, ffS S, nfS S, ipS S, mFS S, mIS S, mZS S, mnS S, ouS S, odS S)
def psU (S : St) (v : Nat → Int32) : St := (bxS S, grS S, mkS S, thS S, tcS S, v, pwS S, fbS S, ffS S, nfS S, ipS S, mFS S, mIS S, mZS S, mnS S, ouS S, odS S)
def pwU (S : St) (v : Nat → Nat → Int64) : St := (bxS S, grS S, mkS S, thS S, tcS S, psS S, v, fbS S, ffS S, nfS S, ipS S, mFS S, mIS S, mZS S, mnS S, ouS S, odS S)
def fbU (S : St) (v : Nat → Int32) : St := (bxS S, grS S, mkS S, thS S, tcS S, psS S, pwS S, v, ffS S, nfS S, ipS S, mFS S, mIS S, mZS S, mnS S, ouS S, odS S)
def ffU (S : St) (v : Nat → UInt32) : St := (bxS S, grS S, mkS S, thS S, tcS S, psS S, pwS S, fbS S, v, nfS S, ipS S, mFS S, mIS S, mZS S, mnS S, ouS S, odS S)
def nfU (S : St) (v : Nat → Int32) : St := (bxS S, grS S, mkS S, thS S, tcS S, psS S, pwS S, fbS S, ffS S, v, ipS S, mFS S, mIS S, mZS S, mnS S, ouS S, odS S)
def ipU (S : St) (v : Nat × Nat) : St := (bxS S, grS S, mkS S, thS S, tcS S, psS S, pwS S, fbS S, ffS S, nfS S, v, mFS S, mIS S, mZS S, mnS S, ouS S, odS S)
def mFU (S : St) (v : Nat → Nat → UInt32) : St := (bxS S, grS S, mkS S, thS S, tcS S, psS S, pwS S, fbS S, ffS S, nfS S, ipS S, v, mIS S, mZS S, mnS S, ouS S, odS S)
def mIU (S : St) (v : Nat → Nat → Int32) : St := (bxS S, grS S, mkS S, thS S, tcS S, psS S, pwS S, fbS S, ffS S, nfS S, ipS S, mFS S, v, mZS S, mnS S, ouS S, odS S)
def mZU (S : St) (v : Nat → Nat → Bool) : St := (bxS S, grS S, mkS S, thS S, tcS S, psS S, pwS S, fbS S, ffS S, nfS S, ipS S, mFS S, mIS S, v, mnS S, ouS S, odS S)
def mnU (S : St) (v : Nat → Int32) : St := (bxS S, grS S, mkS S, thS S, tcS S, psS S, pwS S, fbS S, ffS S, nfS S, ipS S, mFS S, mIS S, mZS S, v, ouS S, odS S)
def ouU (S : St) (v : Nat → Int64) : St := (bxS S, grS S, mkS S, thS S, tcS S, psS S, pwS S, fbS S, ffS S, nfS S, ipS S, mFS S, mIS S, mZS S, mnS S, v, odS S)
def odU (S : St) (v : Nat → UInt64) : St := (bxS S, grS S, mkS S, thS S, tcS S, psS S, pwS S, fbS S, ffS S, nfS S, ipS S, mFS S, mIS S, mZS S, mnS S, ouS S, v)
theorem bx_bx (S : St) (v : Nat → Nat → UInt32) : bxS (bxU S v) = v := rfl
theorem gr_bx (S : St) (v : Nat → Nat → UInt32) : grS (bxU S v) = grS S := rfl
theorem mk_bx (S : St) (v : Nat → Nat → UInt32) : mkS (bxU S v) = mkS S := rfl
theorem th_bx (S : St) (v : Nat → Nat → UInt32) : thS (bxU S v) = thS S := rfl
theorem tc_bx (S : St) (v : Nat → Nat → UInt32) : tcS (bxU S v) = tcS S := rfl
theorem ps_bx (S : St) (v : Nat → Nat → UInt32) : psS (bxU S v) = psS S := rfl
theorem pw_bx (S : St) (v : Nat → Nat → UInt32) : pwS (bxU S v) = pwS S := rfl
theorem fb_bx (S : St) (v : Nat → Nat → UInt32) : fbS (bxU S v) = fbS S := rfl
theorem ff_bx (S : St) (v : Nat → Nat → UInt32) : ffS (bxU S v) = ffS S := rfl
theorem nf_bx (S : St) (v : Nat → Nat → UInt32) : nfS (bxU S v) = nfS S := rfl
theorem ip_bx (S : St) (v : Nat → Nat → UInt32) : ipS (bxU S v) = ipS S := rfl
theorem mF_bx (S : St) (v : Nat → Nat → UInt32) : mFS (bxU S v) = mFS S := rfl
theorem mI_bx (S : St) (v : Nat → Nat → UInt32) : mIS (bxU S v) = mIS S := rfl
theorem mZ_bx (S : St) (v : Nat → Nat → UInt32) : mZS (bxU S v) = mZS S := rfl
theorem mn_bx (S : St) (v : Nat → Nat → UInt32) : mnS (bxU S v) = mnS S := rfl
theorem ou_bx (S : St) (v : Nat → Nat → UInt32) : ouS (bxU S v) = ouS S := rfl
theorem od_bx (S : St) (v : Nat → Nat → UInt32) : odS (bxU S v) = odS S := rfl
theorem bx_gr (S : St) (v : Nat → Int32) : bxS (grU S v) = bxS S := rfl
theorem gr_gr (S : St) (v : Nat → Int32) : grS (grU S v) = v := rfl
theorem mk_gr (S : St) (v : Nat → Int32) : mkS (grU S v) = mkS S := rfl
theorem th_gr (S : St) (v : Nat → Int32) : thS (grU S v) = thS S := rfl
theorem tc_gr (S : St) (v : Nat → Int32) : tcS (grU S v) = tcS S := rfl
theorem ps_gr (S : St) (v : Nat → Int32) : psS (grU S v) = psS S := rfl
theorem pw_gr (S : St) (v : Nat → Int32) : pwS (grU S v) = pwS S := rfl
theorem fb_gr (S : St) (v : Nat → Int32) : fbS (grU S v) = fbS S := rfl
theorem ff_gr (S : St) (v : Nat → Int32) : ffS (grU S v) = ffS S := rfl
theorem nf_gr (S : St) (v : Nat → Int32) : nfS (grU S v) = nfS S := rfl
theorem ip_gr (S : St) (v : Nat → Int32) : ipS (grU S v) = ipS S := rfl
theorem mF_gr (S : St) (v : Nat → Int32) : mFS (grU S v) = mFS S := rfl
theorem mI_gr (S : St) (v : Nat → Int32) : mIS (grU S v) = mIS S := rfl
theorem mZ_gr (S : St) (v : Nat → Int32) : mZS (grU S v) = mZS S := rfl
theorem mn_gr (S : St) (v : Nat → Int32) : mnS (grU S v) = mnS S := rfl
theorem ou_gr (S : St) (v : Nat → Int32) : ouS (grU S v) = ouS S := rfl
theorem od_gr (S : St) (v : Nat → Int32) : odS (grU S v) = odS S := rfl
theorem bx_mk (S : St) (v : Nat → Int32) : bxS (mkU S v) = bxS S := rfl
theorem gr_mk (S : St) (v : Nat → Int32) : grS (mkU S v) = grS S := rfl
theorem mk_mk (S : St) (v : Nat → Int32) : mkS (mkU S v) = v := rfl
theorem th_mk (S : St) (v : Nat → Int32) : thS (mkU S v) = thS S := rfl
theorem tc_mk (S : St) (v : Nat → Int32) : tcS (mkU S v) = tcS S := rfl
theorem ps_mk (S : St) (v : Nat → Int32) : psS (mkU S v) = psS S := rfl
theorem pw_mk (S : St) (v : Nat → Int32) : pwS (mkU S v) = pwS S := rfl
theorem fb_mk (S : St) (v : Nat → Int32) : fbS (mkU S v) = fbS S := rfl
theorem ff_mk (S : St) (v : Nat → Int32) : ffS (mkU S v) = ffS S := rfl
theorem nf_mk (S : St) (v : Nat → Int32) : nfS (mkU S v) = nfS S := rfl
theorem ip_mk (S : St) (v : Nat → Int32) : ipS (mkU S v) = ipS S := rfl
theorem mF_mk (S : St) (v : Nat → Int32) : mFS (mkU S v) = mFS S := rfl
theorem mI_mk (S : St) (v : Nat → Int32) : mIS (mkU S v) = mIS S := rfl
theorem mZ_mk (S : St) (v : Nat → Int32) : mZS (mkU S v) = mZS S := rfl
theorem mn_mk (S : St) (v : Nat → Int32) : mnS (mkU S v) = mnS S := rfl
theorem ou_mk (S : St) (v : Nat → Int32) : ouS (mkU S v) = ouS S := rfl
theorem od_mk (S : St) (v : Nat → Int32) : odS (mkU S v) = odS S := rfl
theorem bx_th (S : St) (v : Nat → Bool) : bxS (thU S v) = bxS S := rfl
theorem gr_th (S : St) (v : Nat → Bool) : grS (thU S v) = grS S := rfl
theorem mk_th (S : St) (v : Nat → Bool) : mkS (thU S v) = mkS S := rfl
theorem th_th (S : St) (v : Nat → Bool) : thS (thU S v) = v := rfl
theorem tc_th (S : St) (v : Nat → Bool) : tcS (thU S v) = tcS S := rfl
theorem ps_th (S : St) (v : Nat → Bool) : psS (thU S v) = psS S := rfl
theorem pw_th (S : St) (v : Nat → Bool) : pwS (thU S v) = pwS S := rfl
theorem fb_th (S : St) (v : Nat → Bool) : fbS (thU S v) = fbS S := rfl
theorem ff_th (S : St) (v : Nat → Bool) : ffS (thU S v) = ffS S := rfl
theorem nf_th (S : St) (v : Nat → Bool) : nfS (thU S v) = nfS S := rfl
theorem ip_th (S : St) (v : Nat → Bool) : ipS (thU S v) = ipS S := rfl
theorem mF_th (S : St) (v : Nat → Bool) : mFS (thU S v) = mFS S := rfl
theorem mI_th (S : St) (v : Nat → Bool) : mIS (thU S v) = mIS S := rfl
theorem mZ_th (S : St) (v : Nat → Bool) : mZS (thU S v) = mZS S := rfl
theorem mn_th (S : St) (v : Nat → Bool) : mnS (thU S v) = mnS S := rfl
theorem ou_th (S : St) (v : Nat → Bool) : ouS (thU S v) = ouS S := rfl
theorem od_th (S : St) (v : Nat → Bool) : odS (thU S v) = odS S := rfl
theorem bx_tc (S : St) (v : Nat → Bool) : bxS (tcU S v) = bxS S := rfl
theorem gr_tc (S : St) (v : Nat → Bool) : grS (tcU S v) = grS S := rfl
theorem mk_tc (S : St) (v : Nat → Bool) : mkS (tcU S v) = mkS S := rfl
theorem th_tc (S : St) (v : Nat → Bool) : thS (tcU S v) = thS S := rfl
theorem tc_tc (S : St) (v : Nat → Bool) : tcS (tcU S v) = v := rfl
theorem ps_tc (S : St) (v : Nat → Bool) : psS (tcU S v) = psS S := rfl
theorem pw_tc (S : St) (v : Nat → Bool) : pwS (tcU S v) = pwS S := rfl
theorem fb_tc (S : St) (v : Nat → Bool) : fbS (tcU S v) = fbS S := rfl
theorem ff_tc (S : St) (v : Nat → Bool) : ffS (tcU S v) = ffS S := rfl
theorem nf_tc (S : St) (v : Nat → Bool) : nfS (tcU S v) = nfS S := rfl
theorem ip_tc (S : St) (v : Nat → Bool) : ipS (tcU S v) = ipS S := rfl
theorem mF_tc (S : St) (v : Nat → Bool) : mFS (tcU S v) = mFS S := rfl
theorem mI_tc (S : St) (v : Nat → Bool) : mIS (tcU S v) = mIS S := rfl
theorem mZ_tc (S : St) (v : Nat → Bool) : mZS (tcU S v) = mZS S := rfl
theorem mn_tc (S : St) (v : Nat → Bool) : mnS (tcU S v) = mnS S := rfl
theorem ou_tc (S : St) (v : Nat → Bool) : ouS (tcU S v) = ouS S := rfl
theorem od_tc (S : St) (v : Nat → Bool) : odS (tcU S v) = odS S := rfl
theorem bx_ps (S : St) (v : Nat → Int32) : bxS (psU S v) = bxS S := rfl
theorem gr_ps (S : St) (v : Nat → Int32) : grS (psU S v) = grS S := rfl
theorem mk_ps (S : St) (v : Nat → Int32) : mkS (psU S v) = mkS S := rfl
theorem th_ps (S : St) (v : Nat → Int32) : thS (psU S v) = thS S := rfl
theorem tc_ps (S : St) (v : Nat → Int32) : tcS (psU S v) = tcS S := rfl
theorem ps_ps (S : St) (v : Nat → Int32) : psS (psU S v) = v := rfl
theorem pw_ps (S : St) (v : Nat → Int32) : pwS (psU S v) = pwS S := rfl
theorem fb_ps (S : St) (v : Nat → Int32) : fbS (psU S v) = fbS S := rfl
theorem ff_ps (S : St) (v : Nat → Int32) : ffS (psU S v) = ffS S := rfl
theorem nf_ps (S : St) (v : Nat → Int32) : nfS (psU S v) = nfS S := rfl
theorem ip_ps (S : St) (v : Nat → Int32) : ipS (psU S v) = ipS S := rfl
theorem mF_ps (S : St) (v : Nat → Int32) : mFS (psU S v) = mFS S := rfl
theorem mI_ps (S : St) (v : Nat → Int32) : mIS (psU S v) = mIS S := rfl
theorem mZ_ps (S : St) (v : Nat → Int32) : mZS (psU S v) = mZS S := rfl
theorem mn_ps (S : St) (v : Nat → Int32) : mnS (psU S v) = mnS S := rfl
theorem ou_ps (S : St) (v : Nat → Int32) : ouS (psU S v) = ouS S := rfl
theorem od_ps (S : St) (v : Nat → Int32) : odS (psU S v) = odS S := rfl
theorem bx_pw (S : St) (v : Nat → Nat → Int64) : bxS (pwU S v) = bxS S := rfl
theorem gr_pw (S : St) (v : Nat → Nat → Int64) : grS (pwU S v) = grS S := rfl
theorem mk_pw (S : St) (v : Nat → Nat → Int64) : mkS (pwU S v) = mkS S := rfl
theorem th_pw (S : St) (v : Nat → Nat → Int64) : thS (pwU S v) = thS S := rfl
theorem tc_pw (S : St) (v : Nat → Nat → Int64) : tcS (pwU S v) = tcS S := rfl
theorem ps_pw (S : St) (v : Nat → Nat → Int64) : psS (pwU S v) = psS S := rfl
theorem pw_pw (S : St) (v : Nat → Nat → Int64) : pwS (pwU S v) = v := rfl
theorem fb_pw (S : St) (v : Nat → Nat → Int64) : fbS (pwU S v) = fbS S := rfl
theorem ff_pw (S : St) (v : Nat → Nat → Int64) : ffS (pwU S v) = ffS S := rfl
theorem nf_pw (S : St) (v : Nat → Nat → Int64) : nfS (pwU S v) = nfS S := rfl
theorem ip_pw (S : St) (v : Nat → Nat → Int64) : ipS (pwU S v) = ipS S := rfl
theorem mF_pw (S : St) (v : Nat → Nat → Int64) : mFS (pwU S v) = mFS S := rfl
theorem mI_pw (S : St) (v : Nat → Nat → Int64) : mIS (pwU S v) = mIS S := rfl
theorem mZ_pw (S : St) (v : Nat → Nat → Int64) : mZS (pwU S v) = mZS S := rfl
theorem mn_pw (S : St) (v : Nat → Nat → Int64) : mnS (pwU S v) = mnS S := rfl
theorem ou_pw (S : St) (v : Nat → Nat → Int64) : ouS (pwU S v) = ouS S := rfl
theorem od_pw (S : St) (v : Nat → Nat → Int64) : odS (pwU S v) = odS S := rfl
theorem bx_fb (S : St) (v : Nat → Int32) : bxS (fbU S v) = bxS S := rfl
theorem gr_fb (S : St) (v : Nat → Int32) : grS (fbU S v) = grS S := rfl
theorem mk_fb (S : St) (v : Nat → Int32) : mkS (fbU S v) = mkS S := rfl
theorem th_fb (S : St) (v : Nat → Int32) : thS (fbU S v) = thS S := rfl
theorem tc_fb (S : St) (v : Nat → Int32) : tcS (fbU S v) = tcS S := rfl
theorem ps_fb (S : St) (v : Nat → Int32) : psS (fbU S v) = psS S := rfl
theorem pw_fb (S : St) (v : Nat → Int32) : pwS (fbU S v) = pwS S := rfl
theorem fb_fb (S : St) (v : Nat → Int32) : fbS (fbU S v) = v := rfl
theorem ff_fb (S : St) (v : Nat → Int32) : ffS (fbU S v) = ffS S := rfl
theorem nf_fb (S : St) (v : Nat → Int32) : nfS (fbU S v) = nfS S := rfl
theorem ip_fb (S : St) (v : Nat → Int32) : ipS (fbU S v) = ipS S := rfl
theorem mF_fb (S : St) (v : Nat → Int32) : mFS (fbU S v) = mFS S := rfl
theorem mI_fb (S : St) (v : Nat → Int32) : mIS (fbU S v) = mIS S := rfl
theorem mZ_fb (S : St) (v : Nat → Int32) : mZS (fbU S v) = mZS S := rfl
theorem mn_fb (S : St) (v : Nat → Int32) : mnS (fbU S v) = mnS S := rfl
theorem ou_fb (S : St) (v : Nat → Int32) : ouS (fbU S v) = ouS S := rfl
theorem od_fb (S : St) (v : Nat → Int32) : odS (fbU S v) = odS S := rfl
theorem bx_ff (S : St) (v : Nat → UInt32) : bxS (ffU S v) = bxS S := rfl
theorem gr_ff (S : St) (v : Nat → UInt32) : grS (ffU S v) = grS S := rfl
theorem mk_ff (S : St) (v : Nat → UInt32) : mkS (ffU S v) = mkS S := rfl
theorem th_ff (S : St) (v : Nat → UInt32) : thS (ffU S v) = thS S := rfl
theorem tc_ff (S : St) (v : Nat → UInt32) : tcS (ffU S v) = tcS S := rfl
theorem ps_ff (S : St) (v : Nat → UInt32) : psS (ffU S v) = psS S := rfl
theorem pw_ff (S : St) (v : Nat → UInt32) : pwS (ffU S v) = pwS S := rfl
theorem fb_ff (S : St) (v : Nat → UInt32) : fbS (ffU S v) = fbS S := rfl
theorem ff_ff (S : St) (v : Nat → UInt32) : ffS (ffU S v) = v := rfl
theorem nf_ff (S : St) (v : Nat → UInt32) : nfS (ffU S v) = nfS S := rfl
theorem ip_ff (S : St) (v : Nat → UInt32) : ipS (ffU S v) = ipS S := rfl
theorem mF_ff (S : St) (v : Nat → UInt32) : mFS (ffU S v) = mFS S := rfl
theorem mI_ff (S : St) (v : Nat → UInt32) : mIS (ffU S v) = mIS S := rfl
theorem mZ_ff (S : St) (v : Nat → UInt32) : mZS (ffU S v) = mZS S := rfl
theorem mn_ff (S : St) (v : Nat → UInt32) : mnS (ffU S v) = mnS S := rfl
theorem ou_ff (S : St) (v : Nat → UInt32) : ouS (ffU S v) = ouS S := rfl
theorem od_ff (S : St) (v : Nat → UInt32) : odS (ffU S v) = odS S := rfl
theorem bx_nf (S : St) (v : Nat → Int32) : bxS (nfU S v) = bxS S := rfl
theorem gr_nf (S : St) (v : Nat → Int32) : grS (nfU S v) = grS S := rfl
theorem mk_nf (S : St) (v : Nat → Int32) : mkS (nfU S v) = mkS S := rfl
theorem th_nf (S : St) (v : Nat → Int32) : thS (nfU S v) = thS S := rfl
theorem tc_nf (S : St) (v : Nat → Int32) : tcS (nfU S v) = tcS S := rfl
theorem ps_nf (S : St) (v : Nat → Int32) : psS (nfU S v) = psS S := rfl
theorem pw_nf (S : St) (v : Nat → Int32) : pwS (nfU S v) = pwS S := rfl
theorem fb_nf (S : St) (v : Nat → Int32) : fbS (nfU S v) = fbS S := rfl
theorem ff_nf (S : St) (v : Nat → Int32) : ffS (nfU S v) = ffS S := rfl
theorem nf_nf (S : St) (v : Nat → Int32) : nfS (nfU S v) = v := rfl
theorem ip_nf (S : St) (v : Nat → Int32) : ipS (nfU S v) = ipS S := rfl
theorem mF_nf (S : St) (v : Nat → Int32) : mFS (nfU S v) = mFS S := rfl
theorem mI_nf (S : St) (v : Nat → Int32) : mIS (nfU S v) = mIS S := rfl
theorem mZ_nf (S : St) (v : Nat → Int32) : mZS (nfU S v) = mZS S := rfl
theorem mn_nf (S : St) (v : Nat → Int32) : mnS (nfU S v) = mnS S := rfl
theorem ou_nf (S : St) (v : Nat → Int32) : ouS (nfU S v) = ouS S := rfl
theorem od_nf (S : St) (v : Nat → Int32) : odS (nfU S v) = odS S := rfl
theorem bx_ip (S : St) (v : Nat × Nat) : bxS (ipU S v) = bxS S := rfl
theorem gr_ip (S : St) (v : Nat × Nat) : grS (ipU S v) = grS S := rfl
theorem mk_ip (S : St) (v : Nat × Nat) : mkS (ipU S v) = mkS S := rfl
theorem th_ip (S : St) (v : Nat × Nat) : thS (ipU S v) = thS S := rfl
theorem tc_ip (S : St) (v : Nat × Nat) : tcS (ipU S v) = tcS S := rfl
theorem ps_ip (S : St) (v : Nat × Nat) : psS (ipU S v) = psS S := rfl
theorem pw_ip (S : St) (v : Nat × Nat) : pwS (ipU S v) = pwS S := rfl
theorem fb_ip (S : St) (v : Nat × Nat) : fbS (ipU S v) = fbS S := rfl
theorem ff_ip (S : St) (v : Nat × Nat) : ffS (ipU S v) = ffS S := rfl
theorem nf_ip (S : St) (v : Nat × Nat) : nfS (ipU S v) = nfS S := rfl
theorem ip_ip (S : St) (v : Nat × Nat) : ipS (ipU S v) = v := rfl
theorem mF_ip (S : St) (v : Nat × Nat) : mFS (ipU S v) = mFS S := rfl
theorem mI_ip (S : St) (v : Nat × Nat) : mIS (ipU S v) = mIS S := rfl
theorem mZ_ip (S : St) (v : Nat × Nat) : mZS (ipU S v) = mZS S := rfl
theorem mn_ip (S : St) (v : Nat × Nat) : mnS (ipU S v) = mnS S := rfl
theorem ou_ip (S : St) (v : Nat × Nat) : ouS (ipU S v) = ouS S := rfl
theorem od_ip (S : St) (v : Nat × Nat) : odS (ipU S v) = odS S := rfl
theorem bx_mF (S : St) (v : Nat → Nat → UInt32) : bxS (mFU S v) = bxS S := rfl
theorem gr_mF (S : St) (v : Nat → Nat → UInt32) : grS (mFU S v) = grS S := rfl
theorem mk_mF (S : St) (v : Nat → Nat → UInt32) : mkS (mFU S v) = mkS S := rfl
theorem th_mF (S : St) (v : Nat → Nat → UInt32) : thS (mFU S v) = thS S := rfl
theorem tc_mF (S : St) (v : Nat → Nat → UInt32) : tcS (mFU S v) = tcS S := rfl
theorem ps_mF (S : St) (v : Nat → Nat → UInt32) : psS (mFU S v) = psS S := rfl
theorem pw_mF (S : St) (v : Nat → Nat → UInt32) : pwS (mFU S v) = pwS S := rfl
theorem fb_mF (S : St) (v : Nat → Nat → UInt32) : fbS (mFU S v) = fbS S := rfl
theorem ff_mF (S : St) (v : Nat → Nat → UInt32) : ffS (mFU S v) = ffS S := rfl
theorem nf_mF (S : St) (v : Nat → Nat → UInt32) : nfS (mFU S v) = nfS S := rfl
theorem ip_mF (S : St) (v : Nat → Nat → UInt32) : ipS (mFU S v) = ipS S := rfl
theorem mF_mF (S : St) (v : Nat → Nat → UInt32) : mFS (mFU S v) = v := rfl
theorem mI_mF (S : St) (v : Nat → Nat → UInt32) : mIS (mFU S v) = mIS S := rfl
theorem mZ_mF (S : St) (v : Nat → Nat → UInt32) : mZS (mFU S v) = mZS S := rfl
theorem mn_mF (S : St) (v : Nat → Nat → UInt32) : mnS (mFU S v) = mnS S := rfl
theorem ou_mF (S : St) (v : Nat → Nat → UInt32) : ouS (mFU S v) = ouS S := rfl
theorem od_mF (S : St) (v : Nat → Nat → UInt32) : odS (mFU S v) = odS S := rfl
theorem bx_mI (S : St) (v : Nat → Nat → Int32) : bxS (mIU S v) = bxS S := rfl
theorem gr_mI (S : St) (v : Nat → Nat → Int32) : grS (mIU S v) = grS S := rfl
theorem mk_mI (S : St) (v : Nat → Nat → Int32) : mkS (mIU S v) = mkS S := rfl
theorem th_mI (S : St) (v : Nat → Nat → Int32) : thS (mIU S v) = thS S := rfl
theorem tc_mI (S : St) (v : Nat → Nat → Int32) : tcS (mIU S v) = tcS S := rfl
theorem ps_mI (S : St) (v : Nat → Nat → Int32) : psS (mIU S v) = psS S := rfl
theorem pw_mI (S : St) (v : Nat → Nat → Int32) : pwS (mIU S v) = pwS S := rfl
theorem fb_mI (S : St) (v : Nat → Nat → Int32) : fbS (mIU S v) = fbS S := rfl
theorem ff_mI (S : St) (v : Nat → Nat → Int32) : ffS (mIU S v) = ffS S := rfl
theorem nf_mI (S : St) (v : Nat → Nat → Int32) : nfS (mIU S v) = nfS S := rfl
theorem ip_mI (S : St) (v : Nat → Nat → Int32) : ipS (mIU S v) = ipS S := rfl
theorem mF_mI (S : St) (v : Nat → Nat → Int32) : mFS (mIU S v) = mFS S := rfl
theorem mI_mI (S : St) (v : Nat → Nat → Int32) : mIS (mIU S v) = v := rfl
theorem mZ_mI (S : St) (v : Nat → Nat → Int32) : mZS (mIU S v) = mZS S := rfl
theorem mn_mI (S : St) (v : Nat → Nat → Int32) : mnS (mIU S v) = mnS S := rfl
theorem ou_mI (S : St) (v : Nat → Nat → Int32) : ouS (mIU S v) = ouS S := rfl
theorem od_mI (S : St) (v : Nat → Nat → Int32) : odS (mIU S v) = odS S := rfl
theorem bx_mZ (S : St) (v : Nat → Nat → Bool) : bxS (mZU S v) = bxS S := rfl
theorem gr_mZ (S : St) (v : Nat → Nat → Bool) : grS (mZU S v) = grS S := rfl
theorem mk_mZ (S : St) (v : Nat → Nat → Bool) : mkS (mZU S v) = mkS S := rfl
theorem th_mZ (S : St) (v : Nat → Nat → Bool) : thS (mZU S v) = thS S := rfl
theorem tc_mZ (S : St) (v : Nat → Nat → Bool) : tcS (mZU S v) = tcS S := rfl
theorem ps_mZ (S : St) (v : Nat → Nat → Bool) : psS (mZU S v) = psS S := rfl
theorem pw_mZ (S : St) (v : Nat → Nat → Bool) : pwS (mZU S v) = pwS S := rfl
theorem fb_mZ (S : St) (v : Nat → Nat → Bool) : fbS (mZU S v) = fbS S := rfl
theorem ff_mZ (S : St) (v : Nat → Nat → Bool) : ffS (mZU S v) = ffS S := rfl
theorem nf_mZ (S : St) (v : Nat → Nat → Bool) : nfS (mZU S v) = nfS S := rfl
theorem ip_mZ (S : St) (v : Nat → Nat → Bool) : ipS (mZU S v) = ipS S := rfl
theorem mF_mZ (S : St) (v : Nat → Nat → Bool) : mFS (mZU S v) = mFS S := rfl
theorem mI_mZ (S : St) (v : Nat → Nat → Bool) : mIS (mZU S v) = mIS S := rfl
theorem mZ_mZ (S : St) (v : Nat → Nat → Bool) : mZS (mZU S v) = v := rfl
theorem mn_mZ (S : St) (v : Nat → Nat → Bool) : mnS (mZU S v) = mnS S := rfl
theorem ou_mZ (S : St) (v : Nat → Nat → Bool) : ouS (mZU S v) = ouS S := rfl
theorem od_mZ (S : St) (v : Nat → Nat → Bool) : odS (mZU S v) = odS S := rfl
theorem bx_mn (S : St) (v : Nat → Int32) : bxS (mnU S v) = bxS S := rfl
theorem gr_mn (S : St) (v : Nat → Int32) : grS (mnU S v) = grS S := rfl
theorem mk_mn (S : St) (v : Nat → Int32) : mkS (mnU S v) = mkS S := rfl
theorem th_mn (S : St) (v : Nat → Int32) : thS (mnU S v) = thS S := rfl
theorem tc_mn (S : St) (v : Nat → Int32) : tcS (mnU S v) = tcS S := rfl
theorem ps_mn (S : St) (v : Nat → Int32) : psS (mnU S v) = psS S := rfl
theorem pw_mn (S : St) (v : Nat → Int32) : pwS (mnU S v) = pwS S := rfl
theorem fb_mn (S : St) (v : Nat → Int32) : fbS (mnU S v) = fbS S := rfl
theorem ff_mn (S : St) (v : Nat → Int32) : ffS (mnU S v) = ffS S := rfl
theorem nf_mn (S : St) (v : Nat → Int32) : nfS (mnU S v) = nfS S := rfl
theorem ip_mn (S : St) (v : Nat → Int32) : ipS (mnU S v) = ipS S := rfl
theorem mF_mn (S : St) (v : Nat → Int32) : mFS (mnU S v) = mFS S := rfl
theorem mI_mn (S : St) (v : Nat → Int32) : mIS (mnU S v) = mIS S := rfl
theorem mZ_mn (S : St) (v : Nat → Int32) : mZS (mnU S v) = mZS S := rfl
theorem mn_mn (S : St) (v : Nat → Int32) : mnS (mnU S v) = v := rfl
theorem ou_mn (S : St) (v : Nat → Int32) : ouS (mnU S v) = ouS S := rfl
theorem od_mn (S : St) (v : Nat → Int32) : odS (mnU S v) = odS S := rfl
theorem bx_ou (S : St) (v : Nat → Int64) : bxS (ouU S v) = bxS S := rfl
theorem gr_ou (S : St) (v : Nat → Int64) : grS (ouU S v) = grS S := rfl
theorem mk_ou (S : St) (v : Nat → Int64) : mkS (ouU S v) = mkS S := rfl
theorem th_ou (S : St) (v : Nat → Int64) : thS (ouU S v) = thS S := rfl
theorem tc_ou (S : St) (v : Nat → Int64) : tcS (ouU S v) = tcS S := rfl
theorem ps_ou (S : St) (v : Nat → Int64) : psS (ouU S v) = psS S := rfl
theorem pw_ou (S : St) (v : Nat → Int64) : pwS (ouU S v) = pwS S := rfl
theorem fb_ou (S : St) (v : Nat → Int64) : fbS (ouU S v) = fbS S := rfl
theorem ff_ou (S : St) (v : Nat → Int64) : ffS (ouU S v) = ffS S := rfl
theorem nf_ou (S : St) (v : Nat → Int64) : nfS (ouU S v) = nfS S := rfl
theorem ip_ou (S : St) (v : Nat → Int64) : ipS (ouU S v) = ipS S := rfl
theorem mF_ou (S : St) (v : Nat → Int64) : mFS (ouU S v) = mFS S := rfl
theorem mI_ou (S : St) (v : Nat → Int64) : mIS (ouU S v) = mIS S := rfl
theorem mZ_ou (S : St) (v : Nat → Int64) : mZS (ouU S v) = mZS S := rfl
theorem mn_ou (S : St) (v : Nat → Int64) : mnS (ouU S v) = mnS S := rfl
theorem ou_ou (S : St) (v : Nat → Int64) : ouS (ouU S v) = v := rfl
theorem od_ou (S : St) (v : Nat → Int64) : odS (ouU S v) = odS S := rfl
theorem bx_od (S : St) (v : Nat → UInt64) : bxS (odU S v) = bxS S := rfl
theorem gr_od (S : St) (v : Nat → UInt64) : grS (odU S v) = grS S := rfl
theorem mk_od (S : St) (v : Nat → UInt64) : mkS (odU S v) = mkS S := rfl
theorem th_od (S : St) (v : Nat → UInt64) : thS (odU S v) = thS S := rfl
theorem tc_od (S : St) (v : Nat → UInt64) : tcS (odU S v) = tcS S := rfl
theorem ps_od (S : St) (v : Nat → UInt64) : psS (odU S v) = psS S := rfl
theorem pw_od (S : St) (v : Nat → UInt64) : pwS (odU S v) = pwS S := rfl
theorem fb_od (S : St) (v : Nat → UInt64) : fbS (odU S v) = fbS S := rfl
theorem ff_od (S : St) (v : Nat → UInt64) : ffS (odU S v) = ffS S := rfl
theorem nf_od (S : St) (v : Nat → UInt64) : nfS (odU S v) = nfS S := rfl
theorem ip_od (S : St) (v : Nat → UInt64) : ipS (odU S v) = ipS S := rfl
theorem mF_od (S : St) (v : Nat → UInt64) : mFS (odU S v) = mFS S := rfl
theorem mI_od (S : St) (v : Nat → UInt64) : mIS (odU S v) = mIS S := rfl
theorem mZ_od (S : St) (v : Nat → UInt64) : mZS (odU S v) = mZS S := rfl
theorem mn_od (S : St) (v : Nat → UInt64) : mnS (odU S v) = mnS S := rfl
theorem ou_od (S : St) (v : Nat → UInt64) : ouS (odU S v) = ouS S := rfl
theorem od_od (S : St) (v : Nat → UInt64) : odS (odU S v) = v := rfl
def lnF : Nat → Nat
  | 0 => 6
  | 1 => 3072
  | 2 => 3072
  | 3 => 512
  | _ => 6
def lnI : Nat → Nat
  | 0 => 512
  | 1 => 512
  | 2 => 8192
  | 3 => 8192
  | 4 => 8192
  | 5 => 8192
  | _ => 512
/-- how many there are of a kind -/
def cnt : Nat → Nat
  | 0 => 1
  | 1 => 1026
  | 2 => 1026
  | 3 => 1
  | 4 => 512
  | 5 => 4
  | 6 => 4
  | 7 => 1
  | 8 => 1
  | 9 => 1
  | 10 => 5
  | 11 => 7
  | 12 => 2
  | 13 => 1
  | 14 => 1
  | _ => 0
/-- kinds: 0 PairFinder; 1 Box (0 pad, 1 work, 2k+2 tight of k, 2k+3 wide of k); 2 its numbers; 3 bodies; 4 Body; 5 PairSet; 6 its words; 7 foundBodies; 8 foundFloats; 9 the model; 10 its float rows; 11 its int rows; 12 its boolean rows; 13 out; 14 outD -/
def memK (G : Gm) (S : St) (i j : Nat) : va_E := match i with
  | 0 => .inr (3, [.ref (g_ad G 1 0), .ref (g_ad G 3 0), .int (nfS S 0), .ref (g_ad G 5 (ipS S).1), .ref (g_ad G 5 (ipS S).2), .ref (g_ad G 5 2), .ref (g_ad G 5 3), .int (nfS S 1), .ref (g_ad G 7 0), .ref (g_ad G 8 0), .int (nfS S 2), .ref (g_ad G 1 1)])
  | 1 => .inr (1, [.ref (g_ad G 2 j)])
  | 2 => .inl (g_cy G 0, 6, .inr (.inr (.inl (bxS S j))))
  | 3 => .inl (g_cy G 5, 512, .inr (.inr (.inr (.inr (fun k => some (g_ad G 4 k))))))
  | 4 => .inr (0, [.ref (g_ad G 1 (2 * j + 2)), .ref (g_ad G 1 (2 * j + 3)), .int (grS S j), .int (mkS S j), .int (bI (thS S j)), .int (bI (tcS S j))])
  | 5 => .inr (2, [.ref (g_ad G 6 j), .int (psS S j)])
  | 6 => .inl (g_cy G 2, 4096, .inr (.inl (pwS S j)))
  | 7 => .inl (g_cy G 1, 512, .inl (fbS S))
  | 8 => .inl (g_cy G 0, 512, .inr (.inr (.inl (ffS S))))
  | 9 => .inr (4, [.int (mnS S 0), .ref (g_ad G 10 0), .ref (g_ad G 12 0), .ref (g_ad G 12 1), .ref (g_ad G 11 0), .ref (g_ad G 11 1), .ref (g_ad G 10 1), .ref (g_ad G 10 2), .ref (g_ad G 11 2), .ref (g_ad G 11 3), .ref (g_ad G 11 4), .ref (g_ad G 11 5), .int (mnS S 1), .int (mnS S 2), .ref (g_ad G 11 6), .ref (g_ad G 10 3), .ref (g_ad G 10 4)])
  | 10 => .inl (g_cy G 0, lnF j, .inr (.inr (.inl (mFS S j))))
  | 11 => .inl (g_cy G 1, lnI j, .inl (mIS S j))
  | 12 => .inl (g_cy G 3, 512, .inl (fun k => bI (mZS S j k)))
  | 13 => .inl (g_cy G 2, 1, .inr (.inl (ouS S)))
  | _ => .inl (g_cy G 4, 1, .inr (.inr (.inr (.inl (odS S)))))
def mem (G : Gm) (S : St) (a : Nat) : va_E := memK G S (g_K G a).1 (g_K G a).2
def lay (G : Gm) : Prop := (∀ i j, j < cnt i → g_K G (g_ad G i j) = (i, j) ∧ g_ad G i j ∈ g_L G) ∧ ∀ a ∈ g_L G, (g_K G a).2 < cnt (g_K G a).1 ∧ g_ad G (g_K G a).1 (g_K G a).2 = a
/-- the cell i, j becomes e, the others stay -/
def mup (G : Gm) (S S' : St) (i j : Nat) (e : va_E) : Prop := memK G S' i j = e ∧ ∀ i' j', j' < cnt i' → ¬ (i' = i ∧ j' = j) → memK G S' i' j' = memK G S i' j'
theorem mem_at {G : Gm} (hL : lay G) (S : St) {i j : Nat} (hj : j < cnt i) : mem G S (g_ad G i j) = memK G S i j := by
  unfold mem
  rw [(hL.1 i j hj).1]
theorem mem_up {G : Gm} (hL : lay G) {S S' : St} {i j : Nat} {e : va_E} (hj : j < cnt i) (h : mup G S S' i j e) : va_pl (g_L G) (va_up (mem G S) (g_ad G i j) e) = va_pl (g_L G) (mem G S') := by
  unfold va_pl
  apply List.map_congr_left
  intro a ha
  by_cases q : a = g_ad G i j
  · subst q
    rw [va_up_self, mem_at hL S' hj, h.1]
  · rw [va_up_ne _ _ q]
    congr 1
    unfold mem
    refine (h.2 _ _ (hL.2 a ha).1 (fun z => q ?_)).symm
    have := (hL.2 a ha).2
    rw [z.1, z.2] at this
    exact this.symm
end
section
/-! Worlds over the state, contracts, rows -/
def strW : List (Nat × String) := [(147, "there would be more than 16384 pairs"), (157, "which is not 0 .. 2"), (159, "there is no such pair"), (190, "what is not 0 .. 11"), (204, "what is not 0 .. 3"), (210, "what is not 0 .. 6"), (216, "a number is not -16384 .. 16384"), (218, "a movement is not -256 .. 256"), (224, "the pad is no box"), (226, "too few bodies are not there"), (228, "there is no such body"), (230, "there is no such place in FOUND"), (71, "n is not 1 .. 512"), (83, "a number would be bad"), (98, "from .. to are no numbers of bodies")]
abbrev xA : String := "java/lang/IllegalArgumentException"
abbrev xS : String := "java/lang/IllegalStateException"
abbrev xI : String := "java/lang/IndexOutOfBoundsException"
def wdT (G : Gm) (U : State) : Prop := va_K (g_dC G, g_dI G) vwCl (g_ty G) U ∧ (∀ q ∈ strW, ∃ sa, vk_R RX3 q.1 q.2 sa U) ∧ va_Nw (.methodLinkNest RX1 26 yX3_isWithin "PairFinder") U ∧ (∀ E ∈ [xA, xS, xI], va_Nw (.castable E E) U) ∧ ∀ E ∈ ["java/lang/RuntimeException", "java/lang/Exception", Bundle.tN], va_Nw (.declares (Bundle.initS E)) U
def wdM (G : Gm) (S : St) (H : Heap) (U : State) : Prop := lay G ∧ (∀ q, H.size ≤ q → g_A G q) ∧ va_P (g_dC G, g_dI G) vwCl (va_pl (g_L G) (mem G S)) H ∧ va_D (g_A G) (va_pl (g_L G) (mem G S)) ∧ vx_Zq Bundle.tN "UNASSIGNED_STACK" Bundle.steD (g_A G) U H ∧ vx_Zq Bundle.tN "SUPPRESSED_SENTINEL" Bundle.listD (g_A G) U H
def wd (G : Gm) (S : St) (U : State) : Prop := wdM G S U.heap U ∧ wdT G U
theorem wdT.warm {G : Gm} {s U : State} (h : wdT G s) (hW : s.WarmedH U.vm) : wdT G U := ⟨va_K.moved hW.alike h.1, fun q hq => (h.2.1 q hq).elim fun sa h1 => ⟨sa, vk_R.warm hW h1⟩, va_Nw.warmM hW h.2.2.1, fun E hE => va_Nw.warmC hW (h.2.2.2.1 E hE), fun E hE => va_Nw.warmD hW (h.2.2.2.2 E hE)⟩
theorem wdM.moved {G : Gm} {S : St} {H : Heap} {u U : State} (hvm : u.vm.Alike U.vm) (h : wdM G S H u) : wdM G S H U := ⟨h.1, h.2.1, h.2.2.1, h.2.2.2.1, vx_Zq.moved hvm h.2.2.2.2.1, vx_Zq.moved hvm h.2.2.2.2.2⟩
theorem wd_blind {av : List Value} {G : Gm} {S : St} : FrameBlind (va_Pc av (wd G S)) := fun a U g mk q => ⟨q.1, wdM.moved (u := U) (U := U.calling g mk a) (Vm.Alike.refl U.vm) q.2.1, wdT.warm (s := U) (U := U.calling g mk a) q.2.2 (State.WarmedH.refl U)⟩
theorem wd_in {G : Gm} {S : St} {H : Heap} {s U : State} (hw : wdM G S H s) (hT : wdT G s) (hU : U.heap = H) (hW : s.WarmedH U.vm) : wd G S U := ⟨by rw [hU]; exact wdM.moved hW.alike hw, wdT.warm hT hW⟩
/-- the heap is written at the cell i, j alone -/
theorem wdM_set {G : Gm} {S S' : St} {H H1 : Heap} {s : State} {i j : Nat} {e : va_E} (hw : wdM G S H s) (hj : j < cnt i) (hm : mup G S S' i j e) (hz : H1.size = H.size) (oq : ∀ q : Nat, q ≠ g_ad G i j → H1[q]? = H[q]?) (he : va_at (g_dC G, g_dI G) vwCl (g_ad G i j, e) H1) : wdM G S' H1 s := by
  obtain ⟨hL, hA, hP, hD, z1, z2⟩ := hw
  obtain ⟨k, hk⟩ := va_pl_get (X := []) (f := mem G S) (hL.1 i j hj).2
  have hk' : (va_pl (g_L G) (mem G S))[k]? = some (g_ad G i j, mem G S (g_ad G i j)) := hk
  have hAi : g_A G (g_ad G i j) := hD.2 k _ hk'
  have e1 : (va_pl (g_L G) (mem G S)).set k (g_ad G i j, e) = va_pl (g_L G) (mem G S') := by
    have := va_pl_set (X := []) (e := e) hD (hL.1 i j hj).2 hk
    rw [List.nil_append, List.nil_append] at this
    rw [this]
    exact mem_up hL hj hm
  have hkp : ∀ a : Nat, a < H.size → ¬ g_A G a → H1[a]? = H[a]? := fun a _ h => oq a (fun q => h (q ▸ hAi))
  refine ⟨hL, by rw [hz]; exact hA, ?_, ?_, vx_Zq.kept z1 hkp, vx_Zq.kept z2 hkp⟩
  · rw [← e1]; exact hP.set hD hk' he oq
  · rw [← e1]; exact hD.set hk'
theorem wdM_at {G : Gm} {S : St} {H : Heap} {s : State} (hw : wdM G S H s) {i j : Nat} (hj : j < cnt i) : va_at (g_dC G, g_dI G) vwCl (g_ad G i j, memK G S i j) H := by
  obtain ⟨hL, hA, hP, hD, z1, z2⟩ := hw
  obtain ⟨k, hk⟩ := va_pl_get (X := []) (f := mem G S) (hL.1 i j hj).2
  have := hP k _ hk
  rw [mem_at hL S hj] at this
  exact this
theorem wdM_A {G : Gm} {S : St} {H : Heap} {s : State} (hw : wdM G S H s) {i j : Nat} (hj : j < cnt i) : g_A G (g_ad G i j) := by
  obtain ⟨hL, hA, hP, hD, z1, z2⟩ := hw
  obtain ⟨k, hk⟩ := va_pl_get (X := []) (f := mem G S) (hL.1 i j hj).2
  exact hD.2 k _ hk
theorem one_P {D : va_G} {q : Nat × va_E} {H : Heap} (h : va_at D vwCl q H) : va_P D vwCl [q] H := fun k x hk => by
  match k, hk with
  | 0, hk => cases hk; exact h
  | k + 1, hk => simp at hk
theorem one_D {A : Nat → Prop} {q : Nat × va_E} (h : A q.1) : va_D A [q] := by
  have key : ∀ (k : Nat) (x : Nat × va_E), ([q] : va_W)[k]? = some x → k = 0 ∧ x = q := fun k x hk => by
    match k, hk with
    | 0, hk => cases hk; exact ⟨rfl, rfl⟩
    | k + 1, hk => simp at hk
  exact ⟨fun i j a b ha hb _ => by rw [(key i a ha).1, (key j b hb).1], fun k x hk => by rw [(key k x hk).2]; exact h⟩
/-- what a walk of a body has at hand -/
def Cx (p : Program) (s : State) (m : MethodId) (meth : Method) (c : Code) (args : Array Value) (cc : ByteArray) (nL : Nat) (ret : Option FieldType) (Ts : List Cond) (own : String) : Prop := p.tables.exec = Jvm.exec ∧ c.code = cc ∧ meth.sig.returnType = ret ∧ c.maxLocals = nL ∧ s.vm.findClass own = some m.cls ∧ (∀ w ∈ Ts, w.before args s = true) ∧ meth.locks = false
abbrev wM (G : Gm) (S : St) (U : State) : Prop := wdM G S U.heap U
def Qi (G : Gm) (r : Int32) (S1 : St) := va_Qi (fun r' (S' : St) => r' = r ∧ S' = S1) (wM G) (g_A G)
def Qf (G : Gm) (r : UInt32) (S1 : St) := va_Qf (fun r' (S' : St) => r' = r ∧ S' = S1) (wM G) (g_A G)
def Qv (G : Gm) (S1 : St) := va_Qv (fun (S' : St) => S' = S1) (wM G) (g_A G)
def Ki (G : Gm) (x : Option String) (r : Int32) (S1 : St) := va_Qi (fun r' (S' : St) => x = none ∧ r' = r ∧ S' = S1) (wM G) (g_A G)
def Kf (G : Gm) (x : Option String) (r : UInt32) (S1 : St) := va_Qf (fun r' (S' : St) => x = none ∧ r' = r ∧ S' = S1) (wM G) (g_A G)
def Kv (G : Gm) (x : Option String) (S1 : St) := va_Qv (fun (S' : St) => x = none ∧ S' = S1) (wM G) (g_A G)
def Kx (G : Gm) (x : Option String) (SX : St) : String → State → State → Prop := vx_X (fun _ : Unit => True) (fun E _ U => x = some E ∧ wM G SX U) (g_A G)
def Pi (l : Launch) (y : MethodName) (ws : List Cond) (rm : Room) (av : List Value) (G : Gm) (S : St) (r : Int32) (S1 : St) : Prop := Met l y ws rm (va_Pc av (wd G S)) (Qi G r S1) rm.cells rm.slots (g_A G)
def Pf (l : Launch) (y : MethodName) (ws : List Cond) (rm : Room) (av : List Value) (G : Gm) (S : St) (r : UInt32) (S1 : St) : Prop := Met l y ws rm (va_Pc av (wd G S)) (Qf G r S1) rm.cells rm.slots (g_A G)
def Pv (l : Launch) (y : MethodName) (ws : List Cond) (rm : Room) (av : List Value) (G : Gm) (S : St) (S1 : St) : Prop := Met l y ws rm (va_Pc av (wd G S)) (Qv G S1) rm.cells rm.slots (g_A G)
def Ti (l : Launch) (y : MethodName) (ws : List Cond) (rm : Room) (av : List Value) (G : Gm) (S : St) (x : Option String) (SX : St) (r : Int32) (S1 : St) : Prop := vx_Met l y ws rm (va_Pc av (wd G S)) (Ki G x r S1) (Kx G x SX) rm.cells rm.slots (g_A G)
def Tf (l : Launch) (y : MethodName) (ws : List Cond) (rm : Room) (av : List Value) (G : Gm) (S : St) (x : Option String) (SX : St) (r : UInt32) (S1 : St) : Prop := vx_Met l y ws rm (va_Pc av (wd G S)) (Kf G x r S1) (Kx G x SX) rm.cells rm.slots (g_A G)
def Tv (l : Launch) (y : MethodName) (ws : List Cond) (rm : Room) (av : List Value) (G : Gm) (S : St) (x : Option String) (SX : St) (S1 : St) : Prop := vx_Met l y ws rm (va_Pc av (wd G S)) (Kv G x S1) (Kx G x SX) rm.cells rm.slots (g_A G)
theorem ent {l : Launch} {y : MethodName} {ws ws' : List Cond} {rm : Room} {av : List Value} {G : Gm} {S : St} {Qc : Array Value → State → Outcome → State → Prop} {cc : ByteArray} {maxL : Nat} {ret : Option FieldType}
    (hy : plainName y.cls = true) (hws : ws = Cond.code y cc maxL ret :: ws') (hlen : (lg_sl av).length ≤ maxL)
    (body : ∀ (p : Program) (e : Env) (s : State) (m : MethodId) (below : List Frame) (meth : Method) (c : Code) (ls : Array Slot), Cx p s m meth c av.toArray cc maxL ret ws y.cls → wdM G S s.heap s → wdT G s → va_S (g_A G) s.heap s.heap [] → lv_has ls maxL (lv_args 0 av) →
      W p l e rm s m av.toArray below meth c s.heap [] 0 0 (MQ below Qc av.toArray s rm.cells rm.slots (g_A G)) (F0 m 0 ls [])) : Met l y ws rm (va_Pc av (wd G S)) Qc rm.cells rm.slots (g_A G) := by
  refine Met.ofW (cc := cc) (maxL := maxL) (ret := ret) hy hws ?_
  intro p e s m args below meth c s₁ B hml hv
  obtain ⟨rfl, hM, hT⟩ := hv
  rw [lg_entry_eq]
  exact body p e s m below meth c _ ⟨B.exec, B.bytes, B.returns, hml, findClass_of_methodNamed B.named, atoms_spec (ws := ws) B.pre, B.notSynchronized⟩ hM hT va_S.rf (lv_entry av hlen)
theorem entX {l : Launch} {y : MethodName} {ws ws' : List Cond} {rm : Room} {av : List Value} {G : Gm} {S : St} {Qc : Array Value → State → Outcome → State → Prop} {XC : String → State → State → Prop} {cc : ByteArray} {maxL : Nat} {ret : Option FieldType}
    (hy : plainName y.cls = true) (hws : ws = Cond.code y cc maxL ret :: ws') (hlen : (lg_sl av).length ≤ maxL)
    (body : ∀ (p : Program) (e : Env) (s : State) (m : MethodId) (below : List Frame) (meth : Method) (c : Code) (ls : Array Slot), Cx p s m meth c av.toArray cc maxL ret ws y.cls → wdM G S s.heap s → wdT G s → va_S (g_A G) s.heap s.heap [] → (∀ x ∈ c.exceptionTable.toList, False) → lv_has ls maxL (lv_args 0 av) →
      W p l e rm s m av.toArray below meth c s.heap [] 0 0 (vx_MQ below Qc XC av.toArray s rm.cells rm.slots (g_A G)) (F0 m 0 ls [])) : vx_Met l y ws rm (va_Pc av (wd G S)) Qc XC rm.cells rm.slots (g_A G) := by
  refine vx_ofW (cc := cc) (maxL := maxL) (ret := ret) hy hws ?_
  intro p e s m args below meth c s₁ B hml hte hv
  obtain ⟨rfl, hM, hT⟩ := hv
  rw [lg_entry_eq]
  exact body p e s m below meth c _ ⟨B.exec, B.bytes, B.returns, hml, findClass_of_methodNamed B.named, atoms_spec (ws := ws) B.pre, B.notSynchronized⟩ hM hT va_S.rf hte (lv_entry av hlen)
end
section
section RW
variable {p : Program} {l : Launch} {e : Env} {R : Room} {s : State} {m : MethodId} {args : Array Value} {below : List Frame} {meth : Method} {c : Code} {H H0 : Heap} {locs : List Loc} {cells slots : Nat} {Q : State → Prop}
variable {cc : ByteArray} {pc : Nat} {ls : Array Slot} {rest : List Value} {Ts : List Cond} {G : Gm} {S S' S1 SX : St} {own ref C : String} {T : u_T} {N ci index i j : Nat}
theorem rcv (hw : wdM G S H s) (hT : wdT G s) (i j : Nat) (hj : j < cnt i) {fs : List Value} (he : memK G S i j = .inr (ci, fs)) (hc : vwCl[ci]? = some (C, T, N)) : ∃ cell : Cell, H[g_ad G i j]? = some cell ∧ cell.vm.isStatics = false ∧ s.vm.findClass C = some cell.cls := by
  have h := wdM_at hw hj
  rw [he] at h
  exact va_recv hT.1 (one_P h) (q0 := 0) hc rfl
theorem gf (hx : p.tables.exec = Jvm.exec) (hb : c.code = cc) (hown : s.vm.findClass own = some m.cls) (hts : ∀ w ∈ Ts, w.before args s = true) (hw : wdM G S H s) (hT : wdT G s) (i j : Nat) (hj : j < cnt i) {fs : List Value} (he : memK G S i j = .inr (ci, fs)) (hc : vwCl[ci]? = some (C, T, N)) (hin : ∀ w ∈ u_ws C T N, w ∈ Ts) (k : Nat) (hk : k < N) (hl : Cond.fieldLink own index (T k).1 (T k).2.1 (T k).2.2.1 ∈ Ts) {v : Value} (hv : fs[k]? = some v) (hdg : decode cc pc = .ok (.getfield index, 3))
    (kk : W p l e R s m args below meth c H locs cells slots Q (F0 m (pc + 3) ls (v :: rest))) : W p l e R s m args below meth c H locs cells slots Q (F0 m pc ls (.ref (g_ad G i j) :: rest)) := by
  have h := wdM_at hw hj
  rw [he] at h
  exact va_get hx hb hts hin hown hT.1 (one_P h) 0 rfl hc k hk (hts _ hl) (fun _ z => z) hv hdg kk
theorem pf (hx : p.tables.exec = Jvm.exec) (hb : c.code = cc) (hown : s.vm.findClass own = some m.cls) (hts : ∀ w ∈ Ts, w.before args s = true) (hw : wdM G S H s) (hT : wdT G s) (hS : va_S (g_A G) H0 H locs) (i j : Nat) (hj : j < cnt i) {fs : List Value} (he : memK G S i j = .inr (ci, fs)) (hc : vwCl[ci]? = some (C, T, N)) (hin : ∀ w ∈ u_ws C T N, w ∈ Ts) (ty0 : Nat → FieldType) (hty : ∀ k, k < N → parseFieldDescriptor (T k).2.2.1 = some (ty0 k)) (hnm : ∀ a, a < N → ∀ b, b < N → a ≠ b → (T a).2.1 ≠ (T b).2.1) (k : Nat) (hk : k < N) (hl : Cond.fieldLink own index (T k).1 (T k).2.1 (T k).2.2.1 ∈ Ts) (hfin : (T k).2.2.2 = false) {ty : FieldType} {v : Value} (hd : parseFieldDescriptor (T k).2.2.1 = some ty) (hn : narrow ty v = v) (hfit : fits ty v = true) (hlen : k < fs.length) (hm : mup G S S' i j (.inr (ci, fs.set k v))) (hdg : decode cc pc = .ok (.putfield index, 3))
    (kk : ∀ (H1 : Heap) (locs1 : List Loc), wdM G S' H1 s → va_S (g_A G) H0 H1 locs1 → W p l e R s m args below meth c H1 locs1 cells slots Q (F0 m (pc + 3) ls rest)) : W p l e R s m args below meth c H locs cells slots Q (F0 m pc ls (v :: .ref (g_ad G i j) :: rest)) := by
  have h := wdM_at hw hj
  rw [he] at h
  have hA := wdM_A hw hj
  obtain ⟨hS1, hfc, kC, hkC, hkind⟩ := hT.1.1 ci _ hc
  have hap := va_apart (own := own) hts hin ty0 hty hnm hT.1 hc
  obtain ⟨r, h1, cell, q1, q2, q3, q4⟩ := h
  have hr : r = (C, T, N) := Option.some.inj (h1.symm.trans hc)
  subst hr
  obtain ⟨cf, kf, fi, f, hi, hsl⟩ := hS1 k hk
  have hlay := hts _ (hin _ (u_in_lay hk))
  unfold u_lay at hlay
  rw [if_neg (by rw [hfin]; decide)] at hlay
  have hst := (u_facts hfc hkC (u_lays hts hin hk) hi).1
  have h6 := u_store hfc hkC hkind hlay hi hd hn hfit
  refine W.putK hx hb (f := f) ⟨hown, hts _ hl, ⟨_, _, _, hi⟩, hst⟩ (by rw [q2]; exact h6) q1 q3 (by rw [hsl]; exact k2_hasslot (q4 k hk)) rfl rfl hdg fun H' e1 e2 e3 => ?_
  rw [hsl] at e1 ⊢
  exact kk H' _ (wdM_set hw hj hm e2 e3 ⟨_, hc, t_OB.to (V := updV (vp_V fs) k v) ⟨_, e1, q2, q3, t_set q4 hap hk v⟩ (fun j _ => vp_updV_set hlen v j)⟩) (hS.put e2 e3 hA)
theorem afl (hx : p.tables.exec = Jvm.exec) (hb : c.code = cc) (hw : wdM G S H s) (hT : wdT G s) (i j : Nat) (hj : j < cnt i) {n : Nat} {f : Nat → UInt32} (he : memK G S i j = .inl (g_cy G 0, n, .inr (.inr (.inl f)))) (k : Nat) (hk : k < n) (hn : n ≤ 65536) (hdg : decode cc pc = .ok (.faload, 1))
    (kk : W p l e R s m args below meth c H locs cells slots Q (F0 m (pc + 1) ls (.float (f k) :: rest))) : W p l e R s m args below meth c H locs cells slots Q (F0 m pc ls (.int (nI k) :: .ref (g_ad G i j) :: rest)) := by
  have h := wdM_at hw hj
  rw [he] at h
  refine va_fald hx hb hT.1 (one_P h) 0 0 rfl rfl (vp_in_nI hk (by omega)) hdg ?_
  rw [nI_clamp (by omega)]
  exact kk
theorem ail (hx : p.tables.exec = Jvm.exec) (hb : c.code = cc) (hw : wdM G S H s) (hT : wdT G s) (i j : Nat) (hj : j < cnt i) {n : Nat} {f : Nat → Int32} (he : memK G S i j = .inl (g_cy G 1, n, .inl f)) (k : Nat) (hk : k < n) (hn : n ≤ 65536) (hdg : decode cc pc = .ok (.iaload, 1))
    (kk : W p l e R s m args below meth c H locs cells slots Q (F0 m (pc + 1) ls (.int (f k) :: rest))) : W p l e R s m args below meth c H locs cells slots Q (F0 m pc ls (.int (nI k) :: .ref (g_ad G i j) :: rest)) := by
  have h := wdM_at hw hj
  rw [he] at h
  refine va_iald hx hb hT.1 (one_P h) 0 1 rfl rfl (vp_in_nI hk (by omega)) hdg ?_
  rw [nI_clamp (by omega)]
  exact kk
theorem all (hx : p.tables.exec = Jvm.exec) (hb : c.code = cc) (hw : wdM G S H s) (hT : wdT G s) (i j : Nat) (hj : j < cnt i) {n : Nat} {f : Nat → Int64} (he : memK G S i j = .inl (g_cy G 2, n, .inr (.inl f))) (k : Nat) (hk : k < n) (hn : n ≤ 65536) (hdg : decode cc pc = .ok (.laload, 1))
    (kk : W p l e R s m args below meth c H locs cells slots Q (F0 m (pc + 1) ls (.long (f k) :: rest))) : W p l e R s m args below meth c H locs cells slots Q (F0 m pc ls (.int (nI k) :: .ref (g_ad G i j) :: rest)) := by
  have h := wdM_at hw hj
  rw [he] at h
  refine va_lald hx hb hT.1 (one_P h) 0 2 rfl rfl (vp_in_nI hk (by omega)) hdg ?_
  rw [nI_clamp (by omega)]
  exact kk
theorem azl (hx : p.tables.exec = Jvm.exec) (hb : c.code = cc) (hw : wdM G S H s) (hT : wdT G s) (i j : Nat) (hj : j < cnt i) {n : Nat} {f : Nat → Int32} (he : memK G S i j = .inl (g_cy G 3, n, .inl f)) (k : Nat) (hk : k < n) (hn : n ≤ 65536) (hdg : decode cc pc = .ok (.baload, 1))
    (kk : W p l e R s m args below meth c H locs cells slots Q (F0 m (pc + 1) ls (.int (f k) :: rest))) : W p l e R s m args below meth c H locs cells slots Q (F0 m pc ls (.int (nI k) :: .ref (g_ad G i j) :: rest)) := by
  have h := wdM_at hw hj
  rw [he] at h
  refine va_zald hx hb hT.1 (one_P h) 0 3 rfl rfl (vp_in_nI hk (by omega)) hdg ?_
  rw [nI_clamp (by omega)]
  exact kk
theorem adl (hx : p.tables.exec = Jvm.exec) (hb : c.code = cc) (hw : wdM G S H s) (hT : wdT G s) (i j : Nat) (hj : j < cnt i) {n : Nat} {f : Nat → UInt64} (he : memK G S i j = .inl (g_cy G 4, n, .inr (.inr (.inr (.inl f))))) (k : Nat) (hk : k < n) (hn : n ≤ 65536) (hdg : decode cc pc = .ok (.daload, 1))
    (kk : W p l e R s m args below meth c H locs cells slots Q (F0 m (pc + 1) ls (.double (f k) :: rest))) : W p l e R s m args below meth c H locs cells slots Q (F0 m pc ls (.int (nI k) :: .ref (g_ad G i j) :: rest)) := by
  have h := wdM_at hw hj
  rw [he] at h
  refine va_dald hx hb hT.1 (one_P h) 0 4 rfl rfl (vp_in_nI hk (by omega)) hdg ?_
  rw [nI_clamp (by omega)]
  exact kk
theorem afs (hx : p.tables.exec = Jvm.exec) (hb : c.code = cc) (hw : wdM G S H s) (hT : wdT G s) (hS : va_S (g_A G) H0 H locs) (i j : Nat) (hj : j < cnt i) {n : Nat} {f : Nat → UInt32} (he : memK G S i j = .inl (g_cy G 0, n, .inr (.inr (.inl f)))) (k : Nat) (hk : k < n) (hn : n ≤ 65536) {x : UInt32} (hm : mup G S S' i j (.inl (g_cy G 0, n, .inr (.inr (.inl (va_up f k x)))))) (hdg : decode cc pc = .ok (.fastore, 1))
    (kk : ∀ (H1 : Heap) (locs1 : List Loc), wdM G S' H1 s → va_S (g_A G) H0 H1 locs1 → W p l e R s m args below meth c H1 locs1 cells slots Q (F0 m (pc + 1) ls rest)) : W p l e R s m args below meth c H locs cells slots Q (F0 m pc ls (.float x :: .int (nI k) :: .ref (g_ad G i j) :: rest)) := by
  have h := wdM_at hw hj
  rw [he] at h
  have hA := wdM_A hw hj
  refine W.fast hx hb h ((hT.1.2 0 _ rfl).1 n (fun j => .float (f j))) (fun q => by cases q) (by show ¬ (nI k < 0 ∨ (arrV _ _ _).slots.size ≤ _); rw [arrV_size]; exact vp_in_nI (N := n) hk (by omega)) rfl rfl hdg fun H1 e1 z oq => ?_
  refine kk H1 _ (wdM_set hw hj hm z oq ?_) (hS.put z oq hA)
  show H1[g_ad G i j]? = some (vp_cell _ _)
  rw [e1]
  rw [vp_cell_f, vp_cell_f, arrV_store, nI_clamp (by omega)]
  congr 2
  funext q
  by_cases hq : q = k
  · subst hq
    simp [updV, va_up]
  · simp [updV, va_up, hq]
theorem ais (hx : p.tables.exec = Jvm.exec) (hb : c.code = cc) (hw : wdM G S H s) (hT : wdT G s) (hS : va_S (g_A G) H0 H locs) (i j : Nat) (hj : j < cnt i) {n : Nat} {f : Nat → Int32} (he : memK G S i j = .inl (g_cy G 1, n, .inl f)) (k : Nat) (hk : k < n) (hn : n ≤ 65536) {x : Int32} (hm : mup G S S' i j (.inl (g_cy G 1, n, .inl (va_up f k x)))) (hdg : decode cc pc = .ok (.iastore, 1))
    (kk : ∀ (H1 : Heap) (locs1 : List Loc), wdM G S' H1 s → va_S (g_A G) H0 H1 locs1 → W p l e R s m args below meth c H1 locs1 cells slots Q (F0 m (pc + 1) ls rest)) : W p l e R s m args below meth c H locs cells slots Q (F0 m pc ls (.int x :: .int (nI k) :: .ref (g_ad G i j) :: rest)) := by
  have h := wdM_at hw hj
  rw [he] at h
  have hA := wdM_A hw hj
  refine W.iast hx hb h ((hT.1.2 1 _ rfl).1 n (fun j => .int (f j))) (fun q => by cases q) (by show ¬ (nI k < 0 ∨ (arrV _ _ _).slots.size ≤ _); rw [arrV_size]; exact vp_in_nI (N := n) hk (by omega)) rfl rfl hdg fun H1 e1 z oq => ?_
  refine kk H1 _ (wdM_set hw hj hm z oq ?_) (hS.put z oq hA)
  show H1[g_ad G i j]? = some (vp_cell _ _)
  rw [e1]
  rw [vp_cell_i, vp_cell_i, arrV_store, nI_clamp (by omega)]
  congr 2
  funext q
  by_cases hq : q = k
  · subst hq
    simp [updV, va_up]
  · simp [updV, va_up, hq]
theorem als (hx : p.tables.exec = Jvm.exec) (hb : c.code = cc) (hw : wdM G S H s) (hT : wdT G s) (hS : va_S (g_A G) H0 H locs) (i j : Nat) (hj : j < cnt i) {n : Nat} {f : Nat → Int64} (he : memK G S i j = .inl (g_cy G 2, n, .inr (.inl f))) (k : Nat) (hk : k < n) (hn : n ≤ 65536) {x : Int64} (hm : mup G S S' i j (.inl (g_cy G 2, n, .inr (.inl (va_up f k x))))) (hdg : decode cc pc = .ok (.lastore, 1))
    (kk : ∀ (H1 : Heap) (locs1 : List Loc), wdM G S' H1 s → va_S (g_A G) H0 H1 locs1 → W p l e R s m args below meth c H1 locs1 cells slots Q (F0 m (pc + 1) ls rest)) : W p l e R s m args below meth c H locs cells slots Q (F0 m pc ls (.long x :: .int (nI k) :: .ref (g_ad G i j) :: rest)) := by
  have h := wdM_at hw hj
  rw [he] at h
  have hA := wdM_A hw hj
  refine W.last hx hb h ((hT.1.2 2 _ rfl).1 n (fun j => .long (f j))) (fun q => by cases q) (by show ¬ (nI k < 0 ∨ (arrV _ _ _).slots.size ≤ _); rw [arrV_size]; exact vp_in_nI (N := n) hk (by omega)) rfl rfl hdg fun H1 e1 z oq => ?_
  refine kk H1 _ (wdM_set hw hj hm z oq ?_) (hS.put z oq hA)
  show H1[g_ad G i j]? = some (vp_cell _ _)
  rw [e1]
  rw [vp_cell_l, vp_cell_l, arrV_store, nI_clamp (by omega)]
  congr 2
  funext q
  by_cases hq : q = k
  · subst hq
    simp [updV, va_up]
  · simp [updV, va_up, hq]
theorem ads (hx : p.tables.exec = Jvm.exec) (hb : c.code = cc) (hw : wdM G S H s) (hT : wdT G s) (hS : va_S (g_A G) H0 H locs) (i j : Nat) (hj : j < cnt i) {n : Nat} {f : Nat → UInt64} (he : memK G S i j = .inl (g_cy G 4, n, .inr (.inr (.inr (.inl f))))) (k : Nat) (hk : k < n) (hn : n ≤ 65536) {x : UInt64} (hm : mup G S S' i j (.inl (g_cy G 4, n, .inr (.inr (.inr (.inl (va_up f k x))))))) (hdg : decode cc pc = .ok (.dastore, 1))
    (kk : ∀ (H1 : Heap) (locs1 : List Loc), wdM G S' H1 s → va_S (g_A G) H0 H1 locs1 → W p l e R s m args below meth c H1 locs1 cells slots Q (F0 m (pc + 1) ls rest)) : W p l e R s m args below meth c H locs cells slots Q (F0 m pc ls (.double x :: .int (nI k) :: .ref (g_ad G i j) :: rest)) := by
  have h := wdM_at hw hj
  rw [he] at h
  have hA := wdM_A hw hj
  refine W.dast hx hb h ((hT.1.2 4 _ rfl).1 n (fun j => .double (f j))) (fun q => by cases q) (by show ¬ (nI k < 0 ∨ (arrV _ _ _).slots.size ≤ _); rw [arrV_size]; exact vp_in_nI (N := n) hk (by omega)) rfl rfl hdg fun H1 e1 z oq => ?_
  refine kk H1 _ (wdM_set hw hj hm z oq ?_) (hS.put z oq hA)
  show H1[g_ad G i j]? = some (vp_cell _ _)
  rw [e1]
  rw [vp_cell_d, vp_cell_d, arrV_store, nI_clamp (by omega)]
  congr 2
  funext q
  by_cases hq : q = k
  · subst hq
    simp [updV, va_up]
  · simp [updV, va_up, hq]
theorem azs (hx : p.tables.exec = Jvm.exec) (hb : c.code = cc) (hw : wdM G S H s) (hT : wdT G s) (hS : va_S (g_A G) H0 H locs) (i j : Nat) (hj : j < cnt i) {n : Nat} {f : Nat → Int32} (he : memK G S i j = .inl (g_cy G 3, n, .inl f)) (k : Nat) (hk : k < n) (hn : n ≤ 65536) {x : Bool} (hm : mup G S S' i j (.inl (g_cy G 3, n, .inl (va_up f k (bI x))))) (hdg : decode cc pc = .ok (.bastore, 1))
    (kk : ∀ (H1 : Heap) (locs1 : List Loc), wdM G S' H1 s → va_S (g_A G) H0 H1 locs1 → W p l e R s m args below meth c H1 locs1 cells slots Q (F0 m (pc + 1) ls rest)) : W p l e R s m args below meth c H locs cells slots Q (F0 m pc ls (.int (bI x) :: .int (nI k) :: .ref (g_ad G i j) :: rest)) := by
  have h := wdM_at hw hj
  rw [he] at h
  have hA := wdM_A hw hj
  refine W.zast hx hb h ((hT.1.2 3 _ rfl).1 n (fun j => .int (f j))) (fun q => by cases q) (by show ¬ (nI k < 0 ∨ (arrV _ _ _).slots.size ≤ _); rw [arrV_size]; exact vp_in_nI (N := n) hk (by omega)) rfl rfl hdg fun H1 e1 z oq => ?_
  refine kk H1 _ (wdM_set hw hj hm z oq ?_) (hS.put z oq hA)
  show H1[g_ad G i j]? = some (vp_cell _ _)
  rw [e1, bI_nar]
  rw [vp_cell_i, vp_cell_i, arrV_store, nI_clamp (by omega)]
  congr 2
  funext q
  by_cases hq : q = k
  · subst hq
    simp [updV, va_up]
  · simp [updV, va_up, hq]
theorem abl (hx : p.tables.exec = Jvm.exec) (hb : c.code = cc) (hw : wdM G S H s) (hT : wdT G s) (k : Nat) (hk : k < 512) (hdg : decode cc pc = .ok (.aaload, 1))
    (kk : W p l e R s m args below meth c H locs cells slots Q (F0 m (pc + 1) ls (.ref (g_ad G 4 k) :: rest))) : W p l e R s m args below meth c H locs cells slots Q (F0 m pc ls (.int (nI k) :: .ref (g_ad G 3 0) :: rest)) := by
  have h := wdM_at hw (show 0 < cnt 3 by decide)
  refine va_aldq hx hb hT.1 (one_P h) 0 5 rfl rfl (vp_in_nI hk (by omega)) hdg ?_
  rw [nI_clamp (by omega)]
  exact kk
theorem ri (hx : p.tables.exec = Jvm.exec) (hb : c.code = cc) (hlk : meth.locks = false) {ty : FieldType} (hr : meth.sig.returnType = some ty) {r v : Int32} {mc ms : Nat} (hw : wdM G S1 H s) (hS : va_S (g_A G) s.heap H locs) (hv : v = r) (hn : narrow ty (.int v) = .int v) (h1 : cells ≤ mc) (h2 : slots ≤ ms) (hdg : decode cc pc = .ok (.ireturn, 1)) : W p l e R s m args below meth c H locs cells slots (MQ below (Qi G r S1) args s mc ms (g_A G)) (F0 m pc ls [.int v]) := by
  subst hv
  exact W.widen h1 h2 (W.zret hx hb hr hn (fun t ht hW => ⟨⟨v, S1, rfl, ⟨rfl, rfl⟩, by show wdM G S1 t.heap t; rw [ht]; exact wdM.moved hW.alike hw⟩, hS.F ht⟩) hS.2.2 hdg hlk)
theorem rf (hx : p.tables.exec = Jvm.exec) (hb : c.code = cc) (hlk : meth.locks = false) (hr : meth.sig.returnType = some .float) {r v : UInt32} {mc ms : Nat} (hw : wdM G S1 H s) (hS : va_S (g_A G) s.heap H locs) (hv : v = r) (h1 : cells ≤ mc) (h2 : slots ≤ ms) (hdg : decode cc pc = .ok (.freturn, 1)) : W p l e R s m args below meth c H locs cells slots (MQ below (Qf G r S1) args s mc ms (g_A G)) (F0 m pc ls [.float v]) := by
  subst hv
  exact W.widen h1 h2 (W.fret hx hb hr (fun t ht hW => ⟨⟨v, S1, rfl, ⟨rfl, rfl⟩, by show wdM G S1 t.heap t; rw [ht]; exact wdM.moved hW.alike hw⟩, hS.F ht⟩) hS.2.2 hdg hlk)
theorem rv (hx : p.tables.exec = Jvm.exec) (hb : c.code = cc) (hlk : meth.locks = false) (hr : meth.sig.returnType = none) {mc ms : Nat} (hw : wdM G S1 H s) (hS : va_S (g_A G) s.heap H locs) (h1 : cells ≤ mc) (h2 : slots ≤ ms) (hdg : decode cc pc = .ok (.return_, 1)) : W p l e R s m args below meth c H locs cells slots (MQ below (Qv G S1) args s mc ms (g_A G)) (F0 m pc ls []) := by
  exact W.widen h1 h2 (W.vret hx hb hr (fun t ht hW => ⟨⟨S1, rfl, rfl, by show wdM G S1 t.heap t; rw [ht]; exact wdM.moved hW.alike hw⟩, hS.F ht⟩) hS.2.2 hdg hlk)
theorem rix (hx : p.tables.exec = Jvm.exec) (hb : c.code = cc) (hlk : meth.locks = false) {ty : FieldType} (hr : meth.sig.returnType = some ty) {x : Option String} {r v : Int32} {mc ms : Nat} (hw : wdM G S1 H s) (hS : va_S (g_A G) s.heap H locs) (hx0 : x = none) (hv : v = r) (hn : narrow ty (.int v) = .int v) (h1 : cells ≤ mc) (h2 : slots ≤ ms) (hdg : decode cc pc = .ok (.ireturn, 1)) : W p l e R s m args below meth c H locs cells slots (vx_MQ below (Ki G x r S1) (Kx G x SX) args s mc ms (g_A G)) (F0 m pc ls [.int v]) := by
  subst hv
  exact W.widen h1 h2 (vx_ret (W.zret hx hb hr hn (fun t ht hW => ⟨⟨v, S1, rfl, ⟨hx0, rfl, rfl⟩, by show wdM G S1 t.heap t; rw [ht]; exact wdM.moved hW.alike hw⟩, hS.F ht⟩) hS.2.2 hdg hlk))
theorem rfx (hx : p.tables.exec = Jvm.exec) (hb : c.code = cc) (hlk : meth.locks = false) (hr : meth.sig.returnType = some .float) {x : Option String} {r v : UInt32} {mc ms : Nat} (hw : wdM G S1 H s) (hS : va_S (g_A G) s.heap H locs) (hx0 : x = none) (hv : v = r) (h1 : cells ≤ mc) (h2 : slots ≤ ms) (hdg : decode cc pc = .ok (.freturn, 1)) : W p l e R s m args below meth c H locs cells slots (vx_MQ below (Kf G x r S1) (Kx G x SX) args s mc ms (g_A G)) (F0 m pc ls [.float v]) := by
  subst hv
  exact W.widen h1 h2 (vx_ret (W.fret hx hb hr (fun t ht hW => ⟨⟨v, S1, rfl, ⟨hx0, rfl, rfl⟩, by show wdM G S1 t.heap t; rw [ht]; exact wdM.moved hW.alike hw⟩, hS.F ht⟩) hS.2.2 hdg hlk))
theorem rvx (hx : p.tables.exec = Jvm.exec) (hb : c.code = cc) (hlk : meth.locks = false) (hr : meth.sig.returnType = none) {x : Option String} {mc ms : Nat} (hw : wdM G S1 H s) (hS : va_S (g_A G) s.heap H locs) (hx0 : x = none) (h1 : cells ≤ mc) (h2 : slots ≤ ms) (hdg : decode cc pc = .ok (.return_, 1)) : W p l e R s m args below meth c H locs cells slots (vx_MQ below (Kv G x S1) (Kx G x SX) args s mc ms (g_A G)) (F0 m pc ls []) := by
  exact W.widen h1 h2 (vx_ret (W.vret hx hb hr (fun t ht hW => ⟨⟨S1, rfl, ⟨hx0, rfl⟩, by show wdM G S1 t.heap t; rw [ht]; exact wdM.moved hW.alike hw⟩, hS.F ht⟩) hS.2.2 hdg hlk))
variable {y : MethodName} {bytes : ByteArray} {maxL nL n : Nat} {ret : Option FieldType} {ws : List Cond} {rm : Room} {b : Nat} {As st0 : List Value}
theorem cVi {r : Int32} (S0 : CallFix p m c cc nL s args Ts own) (hM : Pi l y ws rm (.ref b :: As) G S r S1) (cw : CallW R s args own C index y bytes maxL ret ws rm rm.cells rm.slots n) (hw : wdM G S H s) (hT : wdT G s) (hS : va_S (g_A G) H0 H locs) (hrc : ∃ cell : Cell, H[b]? = some cell ∧ cell.vm.isStatics = false ∧ s.vm.findClass C = some cell.cls) (hn : As.length = n) (hsz : ls.size = nL) (hst : st0 = As.reverse ++ .ref b :: rest) (hW : (rest.map fun v => v.category).sum ≤ 8) (hdg : decode cc pc = .ok (.invokevirtual index, 3)) (hf : cells + rm.cells ≤ R.cells ∧ slots + rm.slots ≤ R.slots)
    (kk : ∀ (H1 : Heap) (locs1 : List Loc), wdM G S1 H1 s → va_S (g_A G) H0 H1 locs1 → W p l e R s m args below meth c H1 locs1 (cells + rm.cells) (slots + rm.slots) Q (F0 m (pc + 3) ls (.int r :: rest))) : W p l e R s m args below meth c H locs cells slots Q (F0 m pc ls st0) := by
  refine va_calli (va_runV (As := As) (rest := rest) S0 hM cw ⟨wd_blind, hrc, fun U hU hW => ⟨rfl, wd_in hw hT hU hW⟩⟩ rfl hn hsz hst (lv_room hW) hdg hf) hS (fun q _ h => h) (fun q h => h) (fun r' u t H1 locs1 ht hvm hp hB hz1 hk1 hS1 => ?_)
  obtain ⟨rfl, rfl⟩ := hp
  exact kk H1 locs1 (by have h9 : wdM G _ t.heap t := hB; rw [ht] at h9; exact wdM.moved hvm.symm h9) hS1
theorem xVi {x : Option String} {r : Int32} (S0 : CallFix p m c cc nL s args Ts own) (hM : Ti l y ws rm (.ref b :: As) G S x SX r S1) (cw : CallW R s args own C index y bytes maxL ret ws rm rm.cells rm.slots n) (hw : wdM G S H s) (hT : wdT G s) (hS : va_S (g_A G) H0 H locs) (hrc : ∃ cell : Cell, H[b]? = some cell ∧ cell.vm.isStatics = false ∧ s.vm.findClass C = some cell.cls) (hn : As.length = n) (hsz : ls.size = nL) (hst : st0 = As.reverse ++ .ref b :: rest) (hW : (rest.map fun v => v.category).sum ≤ 8) (hdg : decode cc pc = .ok (.invokevirtual index, 3)) (hf : cells + rm.cells ≤ R.cells ∧ slots + rm.slots ≤ R.slots)
    (kx : ∀ (E : String) (ce : Cell) (q9 : Addr) (H1 : Heap) (locs1 : List Loc), x = some E → wdM G SX H1 s → va_S (g_A G) H0 H1 locs1 → H1[q9]? = some ce → ce.vm = .none → s.vm.findClass E = some ce.cls → vx_W p l e R s m args below meth c H1 locs1 (cells + rm.cells) (slots + rm.slots) Q (F0 m pc ls rest) q9)
    (kk : ∀ (H1 : Heap) (locs1 : List Loc), x = none → wdM G S1 H1 s → va_S (g_A G) H0 H1 locs1 → W p l e R s m args below meth c H1 locs1 (cells + rm.cells) (slots + rm.slots) Q (F0 m (pc + 3) ls (.int r :: rest))) : W p l e R s m args below meth c H locs cells slots Q (F0 m pc ls st0) := by
  refine vx_calli (vx_runV (As := As) (rest := rest) S0 hM cw ⟨wd_blind, hrc, fun U hU hW => ⟨rfl, wd_in hw hT hU hW⟩⟩ rfl hn hsz hst (lv_room hW) hdg hf) hS (fun q _ h => h) (fun q h => h) (fun q _ h => h) (fun E ce q9 u t H1 locs1 ht hvm hp hB hz1 hk1 hS1 hce hcv hcl => ?_) (fun r' u t H1 locs1 ht hvm hp hB hz1 hk1 hS1 => ?_)
  · exact kx E ce q9 H1 locs1 hB.1 (by have h9 : wdM G _ t.heap t := hB.2; rw [ht] at h9; exact wdM.moved hvm.symm h9) hS1 hce hcv hcl
  · obtain ⟨hx0, rfl, rfl⟩ := hp
    exact kk H1 locs1 hx0 (by have h9 : wdM G _ t.heap t := hB; rw [ht] at h9; exact wdM.moved hvm.symm h9) hS1
theorem cVf {r : UInt32} (S0 : CallFix p m c cc nL s args Ts own) (hM : Pf l y ws rm (.ref b :: As) G S r S1) (cw : CallW R s args own C index y bytes maxL ret ws rm rm.cells rm.slots n) (hw : wdM G S H s) (hT : wdT G s) (hS : va_S (g_A G) H0 H locs) (hrc : ∃ cell : Cell, H[b]? = some cell ∧ cell.vm.isStatics = false ∧ s.vm.findClass C = some cell.cls) (hn : As.length = n) (hsz : ls.size = nL) (hst : st0 = As.reverse ++ .ref b :: rest) (hW : (rest.map fun v => v.category).sum ≤ 8) (hdg : decode cc pc = .ok (.invokevirtual index, 3)) (hf : cells + rm.cells ≤ R.cells ∧ slots + rm.slots ≤ R.slots)
    (kk : ∀ (H1 : Heap) (locs1 : List Loc), wdM G S1 H1 s → va_S (g_A G) H0 H1 locs1 → W p l e R s m args below meth c H1 locs1 (cells + rm.cells) (slots + rm.slots) Q (F0 m (pc + 3) ls (.float r :: rest))) : W p l e R s m args below meth c H locs cells slots Q (F0 m pc ls st0) := by
  refine va_callf (va_runV (As := As) (rest := rest) S0 hM cw ⟨wd_blind, hrc, fun U hU hW => ⟨rfl, wd_in hw hT hU hW⟩⟩ rfl hn hsz hst (lv_room hW) hdg hf) hS (fun q _ h => h) (fun q h => h) (fun r' u t H1 locs1 ht hvm hp hB hz1 hk1 hS1 => ?_)
  obtain ⟨rfl, rfl⟩ := hp
  exact kk H1 locs1 (by have h9 : wdM G _ t.heap t := hB; rw [ht] at h9; exact wdM.moved hvm.symm h9) hS1
theorem xVf {x : Option String} {r : UInt32} (S0 : CallFix p m c cc nL s args Ts own) (hM : Tf l y ws rm (.ref b :: As) G S x SX r S1) (cw : CallW R s args own C index y bytes maxL ret ws rm rm.cells rm.slots n) (hw : wdM G S H s) (hT : wdT G s) (hS : va_S (g_A G) H0 H locs) (hrc : ∃ cell : Cell, H[b]? = some cell ∧ cell.vm.isStatics = false ∧ s.vm.findClass C = some cell.cls) (hn : As.length = n) (hsz : ls.size = nL) (hst : st0 = As.reverse ++ .ref b :: rest) (hW : (rest.map fun v => v.category).sum ≤ 8) (hdg : decode cc pc = .ok (.invokevirtual index, 3)) (hf : cells + rm.cells ≤ R.cells ∧ slots + rm.slots ≤ R.slots)
    (kx : ∀ (E : String) (ce : Cell) (q9 : Addr) (H1 : Heap) (locs1 : List Loc), x = some E → wdM G SX H1 s → va_S (g_A G) H0 H1 locs1 → H1[q9]? = some ce → ce.vm = .none → s.vm.findClass E = some ce.cls → vx_W p l e R s m args below meth c H1 locs1 (cells + rm.cells) (slots + rm.slots) Q (F0 m pc ls rest) q9)
    (kk : ∀ (H1 : Heap) (locs1 : List Loc), x = none → wdM G S1 H1 s → va_S (g_A G) H0 H1 locs1 → W p l e R s m args below meth c H1 locs1 (cells + rm.cells) (slots + rm.slots) Q (F0 m (pc + 3) ls (.float r :: rest))) : W p l e R s m args below meth c H locs cells slots Q (F0 m pc ls st0) := by
  refine vx_callf (vx_runV (As := As) (rest := rest) S0 hM cw ⟨wd_blind, hrc, fun U hU hW => ⟨rfl, wd_in hw hT hU hW⟩⟩ rfl hn hsz hst (lv_room hW) hdg hf) hS (fun q _ h => h) (fun q h => h) (fun q _ h => h) (fun E ce q9 u t H1 locs1 ht hvm hp hB hz1 hk1 hS1 hce hcv hcl => ?_) (fun r' u t H1 locs1 ht hvm hp hB hz1 hk1 hS1 => ?_)
  · exact kx E ce q9 H1 locs1 hB.1 (by have h9 : wdM G _ t.heap t := hB.2; rw [ht] at h9; exact wdM.moved hvm.symm h9) hS1 hce hcv hcl
  · obtain ⟨hx0, rfl, rfl⟩ := hp
    exact kk H1 locs1 hx0 (by have h9 : wdM G _ t.heap t := hB; rw [ht] at h9; exact wdM.moved hvm.symm h9) hS1
theorem cVv (S0 : CallFix p m c cc nL s args Ts own) (hM : Pv l y ws rm (.ref b :: As) G S S1) (cw : CallW R s args own C index y bytes maxL ret ws rm rm.cells rm.slots n) (hw : wdM G S H s) (hT : wdT G s) (hS : va_S (g_A G) H0 H locs) (hrc : ∃ cell : Cell, H[b]? = some cell ∧ cell.vm.isStatics = false ∧ s.vm.findClass C = some cell.cls) (hn : As.length = n) (hsz : ls.size = nL) (hst : st0 = As.reverse ++ .ref b :: rest) (hW : (rest.map fun v => v.category).sum ≤ 8) (hdg : decode cc pc = .ok (.invokevirtual index, 3)) (hf : cells + rm.cells ≤ R.cells ∧ slots + rm.slots ≤ R.slots)
    (kk : ∀ (H1 : Heap) (locs1 : List Loc), wdM G S1 H1 s → va_S (g_A G) H0 H1 locs1 → W p l e R s m args below meth c H1 locs1 (cells + rm.cells) (slots + rm.slots) Q (F0 m (pc + 3) ls (rest))) : W p l e R s m args below meth c H locs cells slots Q (F0 m pc ls st0) := by
  refine va_callv (va_runV (As := As) (rest := rest) S0 hM cw ⟨wd_blind, hrc, fun U hU hW => ⟨rfl, wd_in hw hT hU hW⟩⟩ rfl hn hsz hst (lv_room hW) hdg hf) hS (fun q _ h => h) (fun q h => h) (fun  u t H1 locs1 ht hvm hp hB hz1 hk1 hS1 => ?_)
  obtain rfl := hp
  exact kk H1 locs1 (by have h9 : wdM G _ t.heap t := hB; rw [ht] at h9; exact wdM.moved hvm.symm h9) hS1
theorem xVv {x : Option String} (S0 : CallFix p m c cc nL s args Ts own) (hM : Tv l y ws rm (.ref b :: As) G S x SX S1) (cw : CallW R s args own C index y bytes maxL ret ws rm rm.cells rm.slots n) (hw : wdM G S H s) (hT : wdT G s) (hS : va_S (g_A G) H0 H locs) (hrc : ∃ cell : Cell, H[b]? = some cell ∧ cell.vm.isStatics = false ∧ s.vm.findClass C = some cell.cls) (hn : As.length = n) (hsz : ls.size = nL) (hst : st0 = As.reverse ++ .ref b :: rest) (hW : (rest.map fun v => v.category).sum ≤ 8) (hdg : decode cc pc = .ok (.invokevirtual index, 3)) (hf : cells + rm.cells ≤ R.cells ∧ slots + rm.slots ≤ R.slots)
    (kx : ∀ (E : String) (ce : Cell) (q9 : Addr) (H1 : Heap) (locs1 : List Loc), x = some E → wdM G SX H1 s → va_S (g_A G) H0 H1 locs1 → H1[q9]? = some ce → ce.vm = .none → s.vm.findClass E = some ce.cls → vx_W p l e R s m args below meth c H1 locs1 (cells + rm.cells) (slots + rm.slots) Q (F0 m pc ls rest) q9)
    (kk : ∀ (H1 : Heap) (locs1 : List Loc), x = none → wdM G S1 H1 s → va_S (g_A G) H0 H1 locs1 → W p l e R s m args below meth c H1 locs1 (cells + rm.cells) (slots + rm.slots) Q (F0 m (pc + 3) ls (rest))) : W p l e R s m args below meth c H locs cells slots Q (F0 m pc ls st0) := by
  refine vx_callv (vx_runV (As := As) (rest := rest) S0 hM cw ⟨wd_blind, hrc, fun U hU hW => ⟨rfl, wd_in hw hT hU hW⟩⟩ rfl hn hsz hst (lv_room hW) hdg hf) hS (fun q _ h => h) (fun q h => h) (fun q _ h => h) (fun E ce q9 u t H1 locs1 ht hvm hp hB hz1 hk1 hS1 hce hcv hcl => ?_) (fun  u t H1 locs1 ht hvm hp hB hz1 hk1 hS1 => ?_)
  · exact kx E ce q9 H1 locs1 hB.1 (by have h9 : wdM G _ t.heap t := hB.2; rw [ht] at h9; exact wdM.moved hvm.symm h9) hS1 hce hcv hcl
  · obtain ⟨hx0, rfl⟩ := hp
    exact kk H1 locs1 hx0 (by have h9 : wdM G _ t.heap t := hB; rw [ht] at h9; exact wdM.moved hvm.symm h9) hS1
theorem cSi {r : Int32} (S0 : CallFix p m c cc nL s args Ts own) (hM : Pi l y ws rm As G S r S1) (cw : CallB R s args own index y bytes maxL ret ws rm rm.cells rm.slots n ∧ (Cond.static y).before args s = true) (hw : wdM G S H s) (hT : wdT G s) (hS : va_S (g_A G) H0 H locs) (hn : As.length = n) (hsz : ls.size = nL) (hst : st0 = As.reverse ++ rest) (hW : (rest.map fun v => v.category).sum ≤ 8) (hdg : decode cc pc = .ok (.invokestatic index, 3)) (hf : cells + rm.cells ≤ R.cells ∧ slots + rm.slots ≤ R.slots)
    (kk : ∀ (H1 : Heap) (locs1 : List Loc), wdM G S1 H1 s → va_S (g_A G) H0 H1 locs1 → W p l e R s m args below meth c H1 locs1 (cells + rm.cells) (slots + rm.slots) Q (F0 m (pc + 3) ls (.int r :: rest))) : W p l e R s m args below meth c H locs cells slots Q (F0 m pc ls st0) := by
  refine va_calli (va_runS (As := As) (rest := rest) S0 hM cw ⟨wd_blind, fun U hU hW => ⟨rfl, wd_in hw hT hU hW⟩⟩ rfl hn hsz hst (lv_room hW) hdg hf) hS (fun q _ h => h) (fun q h => h) (fun r' u t H1 locs1 ht hvm hp hB hz1 hk1 hS1 => ?_)
  obtain ⟨rfl, rfl⟩ := hp
  exact kk H1 locs1 (by have h9 : wdM G _ t.heap t := hB; rw [ht] at h9; exact wdM.moved hvm.symm h9) hS1
theorem xSi {x : Option String} {r : Int32} (S0 : CallFix p m c cc nL s args Ts own) (hM : Ti l y ws rm As G S x SX r S1) (cw : CallB R s args own index y bytes maxL ret ws rm rm.cells rm.slots n ∧ (Cond.static y).before args s = true) (hw : wdM G S H s) (hT : wdT G s) (hS : va_S (g_A G) H0 H locs) (hn : As.length = n) (hsz : ls.size = nL) (hst : st0 = As.reverse ++ rest) (hW : (rest.map fun v => v.category).sum ≤ 8) (hdg : decode cc pc = .ok (.invokestatic index, 3)) (hf : cells + rm.cells ≤ R.cells ∧ slots + rm.slots ≤ R.slots)
    (kx : ∀ (E : String) (ce : Cell) (q9 : Addr) (H1 : Heap) (locs1 : List Loc), x = some E → wdM G SX H1 s → va_S (g_A G) H0 H1 locs1 → H1[q9]? = some ce → ce.vm = .none → s.vm.findClass E = some ce.cls → vx_W p l e R s m args below meth c H1 locs1 (cells + rm.cells) (slots + rm.slots) Q (F0 m pc ls rest) q9)
    (kk : ∀ (H1 : Heap) (locs1 : List Loc), x = none → wdM G S1 H1 s → va_S (g_A G) H0 H1 locs1 → W p l e R s m args below meth c H1 locs1 (cells + rm.cells) (slots + rm.slots) Q (F0 m (pc + 3) ls (.int r :: rest))) : W p l e R s m args below meth c H locs cells slots Q (F0 m pc ls st0) := by
  refine vx_calli (vx_runS (As := As) (rest := rest) S0 hM cw ⟨wd_blind, fun U hU hW => ⟨rfl, wd_in hw hT hU hW⟩⟩ rfl hn hsz hst (lv_room hW) hdg hf) hS (fun q _ h => h) (fun q h => h) (fun q _ h => h) (fun E ce q9 u t H1 locs1 ht hvm hp hB hz1 hk1 hS1 hce hcv hcl => ?_) (fun r' u t H1 locs1 ht hvm hp hB hz1 hk1 hS1 => ?_)
  · exact kx E ce q9 H1 locs1 hB.1 (by have h9 : wdM G _ t.heap t := hB.2; rw [ht] at h9; exact wdM.moved hvm.symm h9) hS1 hce hcv hcl
  · obtain ⟨hx0, rfl, rfl⟩ := hp
    exact kk H1 locs1 hx0 (by have h9 : wdM G _ t.heap t := hB; rw [ht] at h9; exact wdM.moved hvm.symm h9) hS1
theorem cSf {r : UInt32} (S0 : CallFix p m c cc nL s args Ts own) (hM : Pf l y ws rm As G S r S1) (cw : CallB R s args own index y bytes maxL ret ws rm rm.cells rm.slots n ∧ (Cond.static y).before args s = true) (hw : wdM G S H s) (hT : wdT G s) (hS : va_S (g_A G) H0 H locs) (hn : As.length = n) (hsz : ls.size = nL) (hst : st0 = As.reverse ++ rest) (hW : (rest.map fun v => v.category).sum ≤ 8) (hdg : decode cc pc = .ok (.invokestatic index, 3)) (hf : cells + rm.cells ≤ R.cells ∧ slots + rm.slots ≤ R.slots)
    (kk : ∀ (H1 : Heap) (locs1 : List Loc), wdM G S1 H1 s → va_S (g_A G) H0 H1 locs1 → W p l e R s m args below meth c H1 locs1 (cells + rm.cells) (slots + rm.slots) Q (F0 m (pc + 3) ls (.float r :: rest))) : W p l e R s m args below meth c H locs cells slots Q (F0 m pc ls st0) := by
  refine va_callf (va_runS (As := As) (rest := rest) S0 hM cw ⟨wd_blind, fun U hU hW => ⟨rfl, wd_in hw hT hU hW⟩⟩ rfl hn hsz hst (lv_room hW) hdg hf) hS (fun q _ h => h) (fun q h => h) (fun r' u t H1 locs1 ht hvm hp hB hz1 hk1 hS1 => ?_)
  obtain ⟨rfl, rfl⟩ := hp
  exact kk H1 locs1 (by have h9 : wdM G _ t.heap t := hB; rw [ht] at h9; exact wdM.moved hvm.symm h9) hS1
theorem xSf {x : Option String} {r : UInt32} (S0 : CallFix p m c cc nL s args Ts own) (hM : Tf l y ws rm As G S x SX r S1) (cw : CallB R s args own index y bytes maxL ret ws rm rm.cells rm.slots n ∧ (Cond.static y).before args s = true) (hw : wdM G S H s) (hT : wdT G s) (hS : va_S (g_A G) H0 H locs) (hn : As.length = n) (hsz : ls.size = nL) (hst : st0 = As.reverse ++ rest) (hW : (rest.map fun v => v.category).sum ≤ 8) (hdg : decode cc pc = .ok (.invokestatic index, 3)) (hf : cells + rm.cells ≤ R.cells ∧ slots + rm.slots ≤ R.slots)
    (kx : ∀ (E : String) (ce : Cell) (q9 : Addr) (H1 : Heap) (locs1 : List Loc), x = some E → wdM G SX H1 s → va_S (g_A G) H0 H1 locs1 → H1[q9]? = some ce → ce.vm = .none → s.vm.findClass E = some ce.cls → vx_W p l e R s m args below meth c H1 locs1 (cells + rm.cells) (slots + rm.slots) Q (F0 m pc ls rest) q9)
    (kk : ∀ (H1 : Heap) (locs1 : List Loc), x = none → wdM G S1 H1 s → va_S (g_A G) H0 H1 locs1 → W p l e R s m args below meth c H1 locs1 (cells + rm.cells) (slots + rm.slots) Q (F0 m (pc + 3) ls (.float r :: rest))) : W p l e R s m args below meth c H locs cells slots Q (F0 m pc ls st0) := by
  refine vx_callf (vx_runS (As := As) (rest := rest) S0 hM cw ⟨wd_blind, fun U hU hW => ⟨rfl, wd_in hw hT hU hW⟩⟩ rfl hn hsz hst (lv_room hW) hdg hf) hS (fun q _ h => h) (fun q h => h) (fun q _ h => h) (fun E ce q9 u t H1 locs1 ht hvm hp hB hz1 hk1 hS1 hce hcv hcl => ?_) (fun r' u t H1 locs1 ht hvm hp hB hz1 hk1 hS1 => ?_)
  · exact kx E ce q9 H1 locs1 hB.1 (by have h9 : wdM G _ t.heap t := hB.2; rw [ht] at h9; exact wdM.moved hvm.symm h9) hS1 hce hcv hcl
  · obtain ⟨hx0, rfl, rfl⟩ := hp
    exact kk H1 locs1 hx0 (by have h9 : wdM G _ t.heap t := hB; rw [ht] at h9; exact wdM.moved hvm.symm h9) hS1
theorem cSv (S0 : CallFix p m c cc nL s args Ts own) (hM : Pv l y ws rm As G S S1) (cw : CallB R s args own index y bytes maxL ret ws rm rm.cells rm.slots n ∧ (Cond.static y).before args s = true) (hw : wdM G S H s) (hT : wdT G s) (hS : va_S (g_A G) H0 H locs) (hn : As.length = n) (hsz : ls.size = nL) (hst : st0 = As.reverse ++ rest) (hW : (rest.map fun v => v.category).sum ≤ 8) (hdg : decode cc pc = .ok (.invokestatic index, 3)) (hf : cells + rm.cells ≤ R.cells ∧ slots + rm.slots ≤ R.slots)
    (kk : ∀ (H1 : Heap) (locs1 : List Loc), wdM G S1 H1 s → va_S (g_A G) H0 H1 locs1 → W p l e R s m args below meth c H1 locs1 (cells + rm.cells) (slots + rm.slots) Q (F0 m (pc + 3) ls (rest))) : W p l e R s m args below meth c H locs cells slots Q (F0 m pc ls st0) := by
  refine va_callv (va_runS (As := As) (rest := rest) S0 hM cw ⟨wd_blind, fun U hU hW => ⟨rfl, wd_in hw hT hU hW⟩⟩ rfl hn hsz hst (lv_room hW) hdg hf) hS (fun q _ h => h) (fun q h => h) (fun  u t H1 locs1 ht hvm hp hB hz1 hk1 hS1 => ?_)
  obtain rfl := hp
  exact kk H1 locs1 (by have h9 : wdM G _ t.heap t := hB; rw [ht] at h9; exact wdM.moved hvm.symm h9) hS1
theorem xSv {x : Option String} (S0 : CallFix p m c cc nL s args Ts own) (hM : Tv l y ws rm As G S x SX S1) (cw : CallB R s args own index y bytes maxL ret ws rm rm.cells rm.slots n ∧ (Cond.static y).before args s = true) (hw : wdM G S H s) (hT : wdT G s) (hS : va_S (g_A G) H0 H locs) (hn : As.length = n) (hsz : ls.size = nL) (hst : st0 = As.reverse ++ rest) (hW : (rest.map fun v => v.category).sum ≤ 8) (hdg : decode cc pc = .ok (.invokestatic index, 3)) (hf : cells + rm.cells ≤ R.cells ∧ slots + rm.slots ≤ R.slots)
    (kx : ∀ (E : String) (ce : Cell) (q9 : Addr) (H1 : Heap) (locs1 : List Loc), x = some E → wdM G SX H1 s → va_S (g_A G) H0 H1 locs1 → H1[q9]? = some ce → ce.vm = .none → s.vm.findClass E = some ce.cls → vx_W p l e R s m args below meth c H1 locs1 (cells + rm.cells) (slots + rm.slots) Q (F0 m pc ls rest) q9)
    (kk : ∀ (H1 : Heap) (locs1 : List Loc), x = none → wdM G S1 H1 s → va_S (g_A G) H0 H1 locs1 → W p l e R s m args below meth c H1 locs1 (cells + rm.cells) (slots + rm.slots) Q (F0 m (pc + 3) ls (rest))) : W p l e R s m args below meth c H locs cells slots Q (F0 m pc ls st0) := by
  refine vx_callv (vx_runS (As := As) (rest := rest) S0 hM cw ⟨wd_blind, fun U hU hW => ⟨rfl, wd_in hw hT hU hW⟩⟩ rfl hn hsz hst (lv_room hW) hdg hf) hS (fun q _ h => h) (fun q h => h) (fun q _ h => h) (fun E ce q9 u t H1 locs1 ht hvm hp hB hz1 hk1 hS1 hce hcv hcl => ?_) (fun  u t H1 locs1 ht hvm hp hB hz1 hk1 hS1 => ?_)
  · exact kx E ce q9 H1 locs1 hB.1 (by have h9 : wdM G _ t.heap t := hB.2; rw [ht] at h9; exact wdM.moved hvm.symm h9) hS1 hce hcv hcl
  · obtain ⟨hx0, rfl⟩ := hp
    exact kk H1 locs1 hx0 (by have h9 : wdM G _ t.heap t := hB; rw [ht] at h9; exact wdM.moved hvm.symm h9) hS1
theorem cNi {host : String} {r : Int32} (S0 : CallFix p m c cc nL s args Ts own) (hM : Pi l y ws rm As G S r S1) (cw : va_CN R s args own index y host bytes maxL ret ws rm rm.cells rm.slots n ∧ (Cond.static y).before args s = true ∧ True) (hw : wdM G S H s) (hT : wdT G s) (hS : va_S (g_A G) H0 H locs) (hn : As.length = n) (hsz : ls.size = nL) (hst : st0 = As.reverse ++ rest) (hW : (rest.map fun v => v.category).sum ≤ 8) (hdg : decode cc pc = .ok (.invokestatic index, 3)) (hf : cells + rm.cells ≤ R.cells ∧ slots + rm.slots ≤ R.slots)
    (kk : ∀ (H1 : Heap) (locs1 : List Loc), wdM G S1 H1 s → va_S (g_A G) H0 H1 locs1 → W p l e R s m args below meth c H1 locs1 (cells + rm.cells) (slots + rm.slots) Q (F0 m (pc + 3) ls (.int r :: rest))) : W p l e R s m args below meth c H locs cells slots Q (F0 m pc ls st0) := by
  refine va_calli (va_runSN (As := As) (rest := rest) S0 hM cw ⟨wd_blind, fun U hU hW => ⟨rfl, wd_in hw hT hU hW⟩⟩ rfl hn hsz hst (lv_room hW) hdg hf) hS (fun q _ h => h) (fun q h => h) (fun r' u t H1 locs1 ht hvm hp hB hz1 hk1 hS1 => ?_)
  obtain ⟨rfl, rfl⟩ := hp
  exact kk H1 locs1 (by have h9 : wdM G _ t.heap t := hB; rw [ht] at h9; exact wdM.moved hvm.symm h9) hS1
theorem cNf {host : String} {r : UInt32} (S0 : CallFix p m c cc nL s args Ts own) (hM : Pf l y ws rm As G S r S1) (cw : va_CN R s args own index y host bytes maxL ret ws rm rm.cells rm.slots n ∧ (Cond.static y).before args s = true ∧ True) (hw : wdM G S H s) (hT : wdT G s) (hS : va_S (g_A G) H0 H locs) (hn : As.length = n) (hsz : ls.size = nL) (hst : st0 = As.reverse ++ rest) (hW : (rest.map fun v => v.category).sum ≤ 8) (hdg : decode cc pc = .ok (.invokestatic index, 3)) (hf : cells + rm.cells ≤ R.cells ∧ slots + rm.slots ≤ R.slots)
    (kk : ∀ (H1 : Heap) (locs1 : List Loc), wdM G S1 H1 s → va_S (g_A G) H0 H1 locs1 → W p l e R s m args below meth c H1 locs1 (cells + rm.cells) (slots + rm.slots) Q (F0 m (pc + 3) ls (.float r :: rest))) : W p l e R s m args below meth c H locs cells slots Q (F0 m pc ls st0) := by
  refine va_callf (va_runSN (As := As) (rest := rest) S0 hM cw ⟨wd_blind, fun U hU hW => ⟨rfl, wd_in hw hT hU hW⟩⟩ rfl hn hsz hst (lv_room hW) hdg hf) hS (fun q _ h => h) (fun q h => h) (fun r' u t H1 locs1 ht hvm hp hB hz1 hk1 hS1 => ?_)
  obtain ⟨rfl, rfl⟩ := hp
  exact kk H1 locs1 (by have h9 : wdM G _ t.heap t := hB; rw [ht] at h9; exact wdM.moved hvm.symm h9) hS1
theorem cNv {host : String} (S0 : CallFix p m c cc nL s args Ts own) (hM : Pv l y ws rm As G S S1) (cw : va_CN R s args own index y host bytes maxL ret ws rm rm.cells rm.slots n ∧ (Cond.static y).before args s = true ∧ True) (hw : wdM G S H s) (hT : wdT G s) (hS : va_S (g_A G) H0 H locs) (hn : As.length = n) (hsz : ls.size = nL) (hst : st0 = As.reverse ++ rest) (hW : (rest.map fun v => v.category).sum ≤ 8) (hdg : decode cc pc = .ok (.invokestatic index, 3)) (hf : cells + rm.cells ≤ R.cells ∧ slots + rm.slots ≤ R.slots)
    (kk : ∀ (H1 : Heap) (locs1 : List Loc), wdM G S1 H1 s → va_S (g_A G) H0 H1 locs1 → W p l e R s m args below meth c H1 locs1 (cells + rm.cells) (slots + rm.slots) Q (F0 m (pc + 3) ls (rest))) : W p l e R s m args below meth c H locs cells slots Q (F0 m pc ls st0) := by
  refine va_callv (va_runSN (As := As) (rest := rest) S0 hM cw ⟨wd_blind, fun U hU hW => ⟨rfl, wd_in hw hT hU hW⟩⟩ rfl hn hsz hst (lv_room hW) hdg hf) hS (fun q _ h => h) (fun q h => h) (fun  u t H1 locs1 ht hvm hp hB hz1 hk1 hS1 => ?_)
  obtain rfl := hp
  exact kk H1 locs1 (by have h9 : wdM G _ t.heap t := hB; rw [ht] at h9; exact wdM.moved hvm.symm h9) hS1
theorem xo {x : Option String} {E : String} {ce : Cell} {q : Addr} {mc ms : Nat} {Qc : Array Value → State → Outcome → State → Prop} (hte : ∀ z ∈ c.exceptionTable.toList, False) (hlk : meth.locks = false) (hx0 : x = some E) (hw : wdM G SX H s) (hS : va_S (g_A G) s.heap H locs) (hce : H[q]? = some ce) (hcv : ce.vm = .none) (hcl : s.vm.findClass E = some ce.cls) (h1 : cells ≤ mc) (h2 : slots ≤ ms) : vx_W p l e R s m args below meth c H locs cells slots (vx_MQ below Qc (Kx G x SX) args s mc ms (g_A G)) (F0 m pc ls rest) q :=
  vx_out (fun z hz => (hte z hz).elim) hlk hce hcv hcl (fun t ht hvm => ⟨(), trivial, ⟨hx0, by show wdM G SX t.heap t; rw [ht]; exact wdM.moved hvm hw⟩, hS.F ht⟩) hS.2.2 h1 h2
theorem thrA_n : (vx_atS RX3 73 xA ["java/lang/RuntimeException", "java/lang/Exception"]).filter (fun w => !goodWord w) = [.declares (Bundle.initS "java/lang/RuntimeException"), .declares (Bundle.initS "java/lang/Exception"), .declares (Bundle.initS Bundle.tN), .castable xA xA] := by decide +kernel
theorem thrA_g : ∀ w ∈ Cond.classLink RX3 69 xA :: Cond.initialized xA :: vx_atS RX3 73 xA ["java/lang/RuntimeException", "java/lang/Exception"], vx_ot w = true := by decide +kernel
theorem thrA {x : Option String} {text : String} {is mc ms : Nat} {Qc : Array Value → State → Outcome → State → Prop} (hx : p.tables.exec = Jvm.exec) (hb : c.code = cc) (hl : l.stackTraces = false) (hown : s.vm.findClass RX3 = some m.cls) (hts : ∀ w ∈ Ts, w.before args s = true) (hlk : meth.locks = false) (hml : c.maxLocals = nL) (hsz : ls.size = nL) (hw : wdM G SX H s) (hT : wdT G s) (hS : va_S (g_A G) s.heap H locs) (hte : ∀ z ∈ c.exceptionTable.toList, False) (hx0 : x = some xA)
    (w1 : Cond.classLink RX3 69 xA ∈ Ts) (w2 : Cond.initialized xA ∈ Ts) (w3 : ∀ w ∈ (vx_atS RX3 73 xA ["java/lang/RuntimeException", "java/lang/Exception"]).filter goodWord, w ∈ Ts) (hstr : (is, text) ∈ strW) (hsH : s.heap.size ≤ H.size)
    (d0 : decode cc pc = .ok (.new 69, 3)) (d3 : decode cc (pc + 3) = .ok (.dup, 1)) (d4 : decode cc (pc + 4) = .ok (.ldc is, 2)) (d6 : decode cc (pc + 6) = .ok (.invokespecial 73, 3)) (d9 : decode cc (pc + 9) = .ok (.athrow, 1))
    (hR1 : 5 < R.frames) (hR2 : (rest.map fun v => v.category).sum + 82 ≤ R.locals) (hR3 : cells + 1 ≤ R.cells) (hR4 : slots + 6 ≤ R.slots) (h1 : cells + 1 ≤ mc) (h2 : slots + 6 ≤ ms) (hz1 : vx_Zq Bundle.tN "UNASSIGNED_STACK" Bundle.steD (g_A G) s s.heap) (hz2 : vx_Zq Bundle.tN "SUPPRESSED_SENTINEL" Bundle.listD (g_A G) s s.heap) : W p l e R s m args below meth c H locs cells slots (vx_MQ below Qc (Kx G x SX) args s mc ms (g_A G)) (F0 m pc ls rest) := by
  obtain ⟨sa, hsa⟩ := hT.2.1 _ hstr
  refine vx_throwS (A := g_A G) (names := ["java/lang/RuntimeException", "java/lang/Exception"]) hx hb hl hown (by decide +kernel) (by decide +kernel) (hts _ w1) (hts _ w2) hsa (vx_hat (B := [.declares (Bundle.initS "java/lang/RuntimeException"), .declares (Bundle.initS "java/lang/Exception"), .declares (Bundle.initS Bundle.tN), .castable xA xA]) (fun w h => hts w (w3 w h)) (by rw [thrA_n]; exact fun w h => h) (vx_c (va_Nw.use rfl (hT.2.2.2.2 _ (by decide +kernel))) (vx_c (va_Nw.use rfl (hT.2.2.2.2 _ (by decide +kernel))) (vx_c (va_Nw.use rfl (hT.2.2.2.2 _ (by decide +kernel))) (vx_c (va_Nw.use rfl (hT.2.2.2.1 _ (by decide +kernel))) vx_n))))) thrA_g hz1 hz2 hS (hsz.trans hml.symm) d0 d3 d4 d6 d9 (fun z hz => (hte z hz).elim) hR1 (by simpa using hR2) hR3 hR4 hlk (fun t hvm hz hk => ?_) hS.2.2 h1 h2
  refine ⟨(), trivial, ⟨hx0, ?_⟩, ⟨Nat.le_trans hsH hz, fun q hq hnA => ?_⟩⟩
  · show wdM G SX t.heap t
    have hw2 := wdM.moved hvm hw
    obtain ⟨a1, a2, a3, a4, a5, a6⟩ := hw2
    exact ⟨a1, fun q hq => a2 q (Nat.le_trans hz hq), a3.kept (fun k q hq => hk q.1 (a3 k q hq).lt), a4, vx_Zq.kept a5 (fun a h _ => hk a h), vx_Zq.kept a6 (fun a h _ => hk a h)⟩
  · rw [hk q (Nat.lt_of_lt_of_le hq hsH)]
    exact hS.2.1 q hq hnA
theorem thrS_n : (vx_atS RX3 149 xS ["java/lang/RuntimeException", "java/lang/Exception"]).filter (fun w => !goodWord w) = [.declares (Bundle.initS "java/lang/RuntimeException"), .declares (Bundle.initS "java/lang/Exception"), .declares (Bundle.initS Bundle.tN), .castable xS xS] := by decide +kernel
theorem thrS_g : ∀ w ∈ Cond.classLink RX3 145 xS :: Cond.initialized xS :: vx_atS RX3 149 xS ["java/lang/RuntimeException", "java/lang/Exception"], vx_ot w = true := by decide +kernel
theorem thrS {x : Option String} {text : String} {is mc ms : Nat} {Qc : Array Value → State → Outcome → State → Prop} (hx : p.tables.exec = Jvm.exec) (hb : c.code = cc) (hl : l.stackTraces = false) (hown : s.vm.findClass RX3 = some m.cls) (hts : ∀ w ∈ Ts, w.before args s = true) (hlk : meth.locks = false) (hml : c.maxLocals = nL) (hsz : ls.size = nL) (hw : wdM G SX H s) (hT : wdT G s) (hS : va_S (g_A G) s.heap H locs) (hte : ∀ z ∈ c.exceptionTable.toList, False) (hx0 : x = some xS)
    (w1 : Cond.classLink RX3 145 xS ∈ Ts) (w2 : Cond.initialized xS ∈ Ts) (w3 : ∀ w ∈ (vx_atS RX3 149 xS ["java/lang/RuntimeException", "java/lang/Exception"]).filter goodWord, w ∈ Ts) (hstr : (is, text) ∈ strW) (hsH : s.heap.size ≤ H.size)
    (d0 : decode cc pc = .ok (.new 145, 3)) (d3 : decode cc (pc + 3) = .ok (.dup, 1)) (d4 : decode cc (pc + 4) = .ok (.ldc is, 2)) (d6 : decode cc (pc + 6) = .ok (.invokespecial 149, 3)) (d9 : decode cc (pc + 9) = .ok (.athrow, 1))
    (hR1 : 5 < R.frames) (hR2 : (rest.map fun v => v.category).sum + 82 ≤ R.locals) (hR3 : cells + 1 ≤ R.cells) (hR4 : slots + 6 ≤ R.slots) (h1 : cells + 1 ≤ mc) (h2 : slots + 6 ≤ ms) (hz1 : vx_Zq Bundle.tN "UNASSIGNED_STACK" Bundle.steD (g_A G) s s.heap) (hz2 : vx_Zq Bundle.tN "SUPPRESSED_SENTINEL" Bundle.listD (g_A G) s s.heap) : W p l e R s m args below meth c H locs cells slots (vx_MQ below Qc (Kx G x SX) args s mc ms (g_A G)) (F0 m pc ls rest) := by
  obtain ⟨sa, hsa⟩ := hT.2.1 _ hstr
  refine vx_throwS (A := g_A G) (names := ["java/lang/RuntimeException", "java/lang/Exception"]) hx hb hl hown (by decide +kernel) (by decide +kernel) (hts _ w1) (hts _ w2) hsa (vx_hat (B := [.declares (Bundle.initS "java/lang/RuntimeException"), .declares (Bundle.initS "java/lang/Exception"), .declares (Bundle.initS Bundle.tN), .castable xS xS]) (fun w h => hts w (w3 w h)) (by rw [thrS_n]; exact fun w h => h) (vx_c (va_Nw.use rfl (hT.2.2.2.2 _ (by decide +kernel))) (vx_c (va_Nw.use rfl (hT.2.2.2.2 _ (by decide +kernel))) (vx_c (va_Nw.use rfl (hT.2.2.2.2 _ (by decide +kernel))) (vx_c (va_Nw.use rfl (hT.2.2.2.1 _ (by decide +kernel))) vx_n))))) thrS_g hz1 hz2 hS (hsz.trans hml.symm) d0 d3 d4 d6 d9 (fun z hz => (hte z hz).elim) hR1 (by simpa using hR2) hR3 hR4 hlk (fun t hvm hz hk => ?_) hS.2.2 h1 h2
  refine ⟨(), trivial, ⟨hx0, ?_⟩, ⟨Nat.le_trans hsH hz, fun q hq hnA => ?_⟩⟩
  · show wdM G SX t.heap t
    have hw2 := wdM.moved hvm hw
    obtain ⟨a1, a2, a3, a4, a5, a6⟩ := hw2
    exact ⟨a1, fun q hq => a2 q (Nat.le_trans hz hq), a3.kept (fun k q hq => hk q.1 (a3 k q hq).lt), a4, vx_Zq.kept a5 (fun a h _ => hk a h), vx_Zq.kept a6 (fun a h _ => hk a h)⟩
  · rw [hk q (Nat.lt_of_lt_of_le hq hsH)]
    exact hS.2.1 q hq hnA
theorem thrI_n : (vx_atS RX3 100 xI ["java/lang/RuntimeException", "java/lang/Exception"]).filter (fun w => !goodWord w) = [.declares (Bundle.initS "java/lang/RuntimeException"), .declares (Bundle.initS "java/lang/Exception"), .declares (Bundle.initS Bundle.tN), .castable xI xI] := by decide +kernel
theorem thrI_g : ∀ w ∈ Cond.classLink RX3 96 xI :: Cond.initialized xI :: vx_atS RX3 100 xI ["java/lang/RuntimeException", "java/lang/Exception"], vx_ot w = true := by decide +kernel
theorem thrI {x : Option String} {text : String} {is mc ms : Nat} {Qc : Array Value → State → Outcome → State → Prop} (hx : p.tables.exec = Jvm.exec) (hb : c.code = cc) (hl : l.stackTraces = false) (hown : s.vm.findClass RX3 = some m.cls) (hts : ∀ w ∈ Ts, w.before args s = true) (hlk : meth.locks = false) (hml : c.maxLocals = nL) (hsz : ls.size = nL) (hw : wdM G SX H s) (hT : wdT G s) (hS : va_S (g_A G) s.heap H locs) (hte : ∀ z ∈ c.exceptionTable.toList, False) (hx0 : x = some xI)
    (w1 : Cond.classLink RX3 96 xI ∈ Ts) (w2 : Cond.initialized xI ∈ Ts) (w3 : ∀ w ∈ (vx_atS RX3 100 xI ["java/lang/RuntimeException", "java/lang/Exception"]).filter goodWord, w ∈ Ts) (hstr : (is, text) ∈ strW) (hsH : s.heap.size ≤ H.size)
    (d0 : decode cc pc = .ok (.new 96, 3)) (d3 : decode cc (pc + 3) = .ok (.dup, 1)) (d4 : decode cc (pc + 4) = .ok (.ldc is, 2)) (d6 : decode cc (pc + 6) = .ok (.invokespecial 100, 3)) (d9 : decode cc (pc + 9) = .ok (.athrow, 1))
    (hR1 : 5 < R.frames) (hR2 : (rest.map fun v => v.category).sum + 82 ≤ R.locals) (hR3 : cells + 1 ≤ R.cells) (hR4 : slots + 6 ≤ R.slots) (h1 : cells + 1 ≤ mc) (h2 : slots + 6 ≤ ms) (hz1 : vx_Zq Bundle.tN "UNASSIGNED_STACK" Bundle.steD (g_A G) s s.heap) (hz2 : vx_Zq Bundle.tN "SUPPRESSED_SENTINEL" Bundle.listD (g_A G) s s.heap) : W p l e R s m args below meth c H locs cells slots (vx_MQ below Qc (Kx G x SX) args s mc ms (g_A G)) (F0 m pc ls rest) := by
  obtain ⟨sa, hsa⟩ := hT.2.1 _ hstr
  refine vx_throwS (A := g_A G) (names := ["java/lang/RuntimeException", "java/lang/Exception"]) hx hb hl hown (by decide +kernel) (by decide +kernel) (hts _ w1) (hts _ w2) hsa (vx_hat (B := [.declares (Bundle.initS "java/lang/RuntimeException"), .declares (Bundle.initS "java/lang/Exception"), .declares (Bundle.initS Bundle.tN), .castable xI xI]) (fun w h => hts w (w3 w h)) (by rw [thrI_n]; exact fun w h => h) (vx_c (va_Nw.use rfl (hT.2.2.2.2 _ (by decide +kernel))) (vx_c (va_Nw.use rfl (hT.2.2.2.2 _ (by decide +kernel))) (vx_c (va_Nw.use rfl (hT.2.2.2.2 _ (by decide +kernel))) (vx_c (va_Nw.use rfl (hT.2.2.2.1 _ (by decide +kernel))) vx_n))))) thrI_g hz1 hz2 hS (hsz.trans hml.symm) d0 d3 d4 d6 d9 (fun z hz => (hte z hz).elim) hR1 (by simpa using hR2) hR3 hR4 hlk (fun t hvm hz hk => ?_) hS.2.2 h1 h2
  refine ⟨(), trivial, ⟨hx0, ?_⟩, ⟨Nat.le_trans hsH hz, fun q hq hnA => ?_⟩⟩
  · show wdM G SX t.heap t
    have hw2 := wdM.moved hvm hw
    obtain ⟨a1, a2, a3, a4, a5, a6⟩ := hw2
    exact ⟨a1, fun q hq => a2 q (Nat.le_trans hz hq), a3.kept (fun k q hq => hk q.1 (a3 k q hq).lt), a4, vx_Zq.kept a5 (fun a h _ => hk a h), vx_Zq.kept a6 (fun a h _ => hk a h)⟩
  · rw [hk q (Nat.lt_of_lt_of_le hq hsH)]
    exact hS.2.1 q hq hnA
end RW
end
section
theorem mup_bx (G : Gm) (S : St) (j : Nat) (f : Nat → UInt32) : mup G S (bxU S (va_up (bxS S) j f)) 2 j (.inl (g_cy G 0, 6, .inr (.inr (.inl f)))) := by
  refine ⟨?_, fun i' j' hj h => ?_⟩
  · simp [memK, bx_bx, va_up_self]
  · match i', hj, h with
    | 0, _, _ => rfl
    | 1, _, _ => rfl
    | 2, hj, h =>
      have q : j' ≠ j := fun z => h ⟨rfl, z⟩
      simp [memK, bx_bx, va_up_ne _ _ q]
    | 3, _, _ => rfl
    | 4, _, _ => rfl
    | 5, _, _ => rfl
    | 6, _, _ => rfl
    | 7, _, _ => rfl
    | 8, _, _ => rfl
    | 9, _, _ => rfl
    | 10, _, _ => rfl
    | 11, _, _ => rfl
    | 12, _, _ => rfl
    | 13, _, _ => rfl
    | 14, _, _ => rfl
    | n + 15, hj, _ => exact absurd hj (Nat.not_lt_zero _)
theorem mup_gr (G : Gm) (S : St) (k : Nat) (v : Int32) : mup G S (grU S (va_up (grS S) k v)) 4 k (.inr (0, [.ref (g_ad G 1 (2 * k + 2)), .ref (g_ad G 1 (2 * k + 3)), .int (v), .int (mkS S k), .int (bI (thS S k)), .int (bI (tcS S k))])) := by
  refine ⟨?_, fun i' j' hj h => ?_⟩
  · simp [memK, gr_gr, mk_gr, th_gr, tc_gr, va_up_self]
  · match i', hj, h with
    | 0, _, _ => rfl
    | 1, _, _ => rfl
    | 2, _, _ => rfl
    | 3, _, _ => rfl
    | 4, hj, h =>
      have q : j' ≠ k := fun z => h ⟨rfl, z⟩
      simp [memK, gr_gr, mk_gr, th_gr, tc_gr, va_up_ne _ _ q]
    | 5, _, _ => rfl
    | 6, _, _ => rfl
    | 7, _, _ => rfl
    | 8, _, _ => rfl
    | 9, _, _ => rfl
    | 10, _, _ => rfl
    | 11, _, _ => rfl
    | 12, _, _ => rfl
    | 13, _, _ => rfl
    | 14, _, _ => rfl
    | n + 15, hj, _ => exact absurd hj (Nat.not_lt_zero _)
theorem mup_mk (G : Gm) (S : St) (k : Nat) (v : Int32) : mup G S (mkU S (va_up (mkS S) k v)) 4 k (.inr (0, [.ref (g_ad G 1 (2 * k + 2)), .ref (g_ad G 1 (2 * k + 3)), .int (grS S k), .int (v), .int (bI (thS S k)), .int (bI (tcS S k))])) := by
  refine ⟨?_, fun i' j' hj h => ?_⟩
  · simp [memK, gr_mk, mk_mk, th_mk, tc_mk, va_up_self]
  · match i', hj, h with
    | 0, _, _ => rfl
    | 1, _, _ => rfl
    | 2, _, _ => rfl
    | 3, _, _ => rfl
    | 4, hj, h =>
      have q : j' ≠ k := fun z => h ⟨rfl, z⟩
      simp [memK, gr_mk, mk_mk, th_mk, tc_mk, va_up_ne _ _ q]
    | 5, _, _ => rfl
    | 6, _, _ => rfl
    | 7, _, _ => rfl
    | 8, _, _ => rfl
    | 9, _, _ => rfl
    | 10, _, _ => rfl
    | 11, _, _ => rfl
    | 12, _, _ => rfl
    | 13, _, _ => rfl
    | 14, _, _ => rfl
    | n + 15, hj, _ => exact absurd hj (Nat.not_lt_zero _)
theorem mup_th (G : Gm) (S : St) (k : Nat) (v : Bool) : mup G S (thU S (va_up (thS S) k v)) 4 k (.inr (0, [.ref (g_ad G 1 (2 * k + 2)), .ref (g_ad G 1 (2 * k + 3)), .int (grS S k), .int (mkS S k), .int (bI v), .int (bI (tcS S k))])) := by
  refine ⟨?_, fun i' j' hj h => ?_⟩
  · simp [memK, gr_th, mk_th, th_th, tc_th, va_up_self]
  · match i', hj, h with
    | 0, _, _ => rfl
    | 1, _, _ => rfl
    | 2, _, _ => rfl
    | 3, _, _ => rfl
    | 4, hj, h =>
      have q : j' ≠ k := fun z => h ⟨rfl, z⟩
      simp [memK, gr_th, mk_th, th_th, tc_th, va_up_ne _ _ q]
    | 5, _, _ => rfl
    | 6, _, _ => rfl
    | 7, _, _ => rfl
    | 8, _, _ => rfl
    | 9, _, _ => rfl
    | 10, _, _ => rfl
    | 11, _, _ => rfl
    | 12, _, _ => rfl
    | 13, _, _ => rfl
    | 14, _, _ => rfl
    | n + 15, hj, _ => exact absurd hj (Nat.not_lt_zero _)
theorem mup_tc (G : Gm) (S : St) (k : Nat) (v : Bool) : mup G S (tcU S (va_up (tcS S) k v)) 4 k (.inr (0, [.ref (g_ad G 1 (2 * k + 2)), .ref (g_ad G 1 (2 * k + 3)), .int (grS S k), .int (mkS S k), .int (bI (thS S k)), .int (bI v)])) := by
  refine ⟨?_, fun i' j' hj h => ?_⟩
  · simp [memK, gr_tc, mk_tc, th_tc, tc_tc, va_up_self]
  · match i', hj, h with
    | 0, _, _ => rfl
    | 1, _, _ => rfl
    | 2, _, _ => rfl
    | 3, _, _ => rfl
    | 4, hj, h =>
      have q : j' ≠ k := fun z => h ⟨rfl, z⟩
      simp [memK, gr_tc, mk_tc, th_tc, tc_tc, va_up_ne _ _ q]
    | 5, _, _ => rfl
    | 6, _, _ => rfl
    | 7, _, _ => rfl
    | 8, _, _ => rfl
    | 9, _, _ => rfl
    | 10, _, _ => rfl
    | 11, _, _ => rfl
    | 12, _, _ => rfl
    | 13, _, _ => rfl
    | 14, _, _ => rfl
    | n + 15, hj, _ => exact absurd hj (Nat.not_lt_zero _)
theorem mup_ps (G : Gm) (S : St) (j : Nat) (v : Int32) : mup G S (psU S (va_up (psS S) j v)) 5 j (.inr (2, [.ref (g_ad G 6 j), .int v])) := by
  refine ⟨?_, fun i' j' hj h => ?_⟩
  · simp [memK, ps_ps, va_up_self]
  · match i', hj, h with
    | 0, _, _ => rfl
    | 1, _, _ => rfl
    | 2, _, _ => rfl
    | 3, _, _ => rfl
    | 4, _, _ => rfl
    | 5, hj, h =>
      have q : j' ≠ j := fun z => h ⟨rfl, z⟩
      simp [memK, ps_ps, va_up_ne _ _ q]
    | 6, _, _ => rfl
    | 7, _, _ => rfl
    | 8, _, _ => rfl
    | 9, _, _ => rfl
    | 10, _, _ => rfl
    | 11, _, _ => rfl
    | 12, _, _ => rfl
    | 13, _, _ => rfl
    | 14, _, _ => rfl
    | n + 15, hj, _ => exact absurd hj (Nat.not_lt_zero _)
theorem mup_pw (G : Gm) (S : St) (j : Nat) (f : Nat → Int64) : mup G S (pwU S (va_up (pwS S) j f)) 6 j (.inl (g_cy G 2, 4096, .inr (.inl f))) := by
  refine ⟨?_, fun i' j' hj h => ?_⟩
  · simp [memK, pw_pw, va_up_self]
  · match i', hj, h with
    | 0, _, _ => rfl
    | 1, _, _ => rfl
    | 2, _, _ => rfl
    | 3, _, _ => rfl
    | 4, _, _ => rfl
    | 5, _, _ => rfl
    | 6, hj, h =>
      have q : j' ≠ j := fun z => h ⟨rfl, z⟩
      simp [memK, pw_pw, va_up_ne _ _ q]
    | 7, _, _ => rfl
    | 8, _, _ => rfl
    | 9, _, _ => rfl
    | 10, _, _ => rfl
    | 11, _, _ => rfl
    | 12, _, _ => rfl
    | 13, _, _ => rfl
    | 14, _, _ => rfl
    | n + 15, hj, _ => exact absurd hj (Nat.not_lt_zero _)
theorem mup_fb (G : Gm) (S : St) (f : Nat → Int32) : mup G S (fbU S f) 7 0 (.inl (g_cy G 1, 512, .inl f)) := by
  refine ⟨?_, fun i' j' hj h => ?_⟩
  · rfl
  · match i', hj, h with
    | 0, _, _ => rfl
    | 1, _, _ => rfl
    | 2, _, _ => rfl
    | 3, _, _ => rfl
    | 4, _, _ => rfl
    | 5, _, _ => rfl
    | 6, _, _ => rfl
    | 7, hj, h =>
      exact absurd ⟨rfl, Nat.lt_one_iff.mp hj⟩ h
    | 8, _, _ => rfl
    | 9, _, _ => rfl
    | 10, _, _ => rfl
    | 11, _, _ => rfl
    | 12, _, _ => rfl
    | 13, _, _ => rfl
    | 14, _, _ => rfl
    | n + 15, hj, _ => exact absurd hj (Nat.not_lt_zero _)
theorem mup_ff (G : Gm) (S : St) (f : Nat → UInt32) : mup G S (ffU S f) 8 0 (.inl (g_cy G 0, 512, .inr (.inr (.inl f)))) := by
  refine ⟨?_, fun i' j' hj h => ?_⟩
  · rfl
  · match i', hj, h with
    | 0, _, _ => rfl
    | 1, _, _ => rfl
    | 2, _, _ => rfl
    | 3, _, _ => rfl
    | 4, _, _ => rfl
    | 5, _, _ => rfl
    | 6, _, _ => rfl
    | 7, _, _ => rfl
    | 8, hj, h =>
      exact absurd ⟨rfl, Nat.lt_one_iff.mp hj⟩ h
    | 9, _, _ => rfl
    | 10, _, _ => rfl
    | 11, _, _ => rfl
    | 12, _, _ => rfl
    | 13, _, _ => rfl
    | 14, _, _ => rfl
    | n + 15, hj, _ => exact absurd hj (Nat.not_lt_zero _)
theorem mup_nf0 (G : Gm) (S : St) (v : Int32) : mup G S (nfU S (va_up (nfS S) 0 v)) 0 0 (.inr (3, [.ref (g_ad G 1 0), .ref (g_ad G 3 0), .int (v), .ref (g_ad G 5 (ipS S).1), .ref (g_ad G 5 (ipS S).2), .ref (g_ad G 5 2), .ref (g_ad G 5 3), .int (nfS S 1), .ref (g_ad G 7 0), .ref (g_ad G 8 0), .int (nfS S 2), .ref (g_ad G 1 1)])) := by
  refine ⟨?_, fun i' j' hj h => ?_⟩
  · rfl
  · match i', hj, h with
    | 0, hj, h =>
      exact absurd ⟨rfl, Nat.lt_one_iff.mp hj⟩ h
    | 1, _, _ => rfl
    | 2, _, _ => rfl
    | 3, _, _ => rfl
    | 4, _, _ => rfl
    | 5, _, _ => rfl
    | 6, _, _ => rfl
    | 7, _, _ => rfl
    | 8, _, _ => rfl
    | 9, _, _ => rfl
    | 10, _, _ => rfl
    | 11, _, _ => rfl
    | 12, _, _ => rfl
    | 13, _, _ => rfl
    | 14, _, _ => rfl
    | n + 15, hj, _ => exact absurd hj (Nat.not_lt_zero _)
theorem mup_nf1 (G : Gm) (S : St) (v : Int32) : mup G S (nfU S (va_up (nfS S) 1 v)) 0 0 (.inr (3, [.ref (g_ad G 1 0), .ref (g_ad G 3 0), .int (nfS S 0), .ref (g_ad G 5 (ipS S).1), .ref (g_ad G 5 (ipS S).2), .ref (g_ad G 5 2), .ref (g_ad G 5 3), .int (v), .ref (g_ad G 7 0), .ref (g_ad G 8 0), .int (nfS S 2), .ref (g_ad G 1 1)])) := by
  refine ⟨?_, fun i' j' hj h => ?_⟩
  · rfl
  · match i', hj, h with
    | 0, hj, h =>
      exact absurd ⟨rfl, Nat.lt_one_iff.mp hj⟩ h
    | 1, _, _ => rfl
    | 2, _, _ => rfl
    | 3, _, _ => rfl
    | 4, _, _ => rfl
    | 5, _, _ => rfl
    | 6, _, _ => rfl
    | 7, _, _ => rfl
    | 8, _, _ => rfl
    | 9, _, _ => rfl
    | 10, _, _ => rfl
    | 11, _, _ => rfl
    | 12, _, _ => rfl
    | 13, _, _ => rfl
    | 14, _, _ => rfl
    | n + 15, hj, _ => exact absurd hj (Nat.not_lt_zero _)
theorem mup_nf2 (G : Gm) (S : St) (v : Int32) : mup G S (nfU S (va_up (nfS S) 2 v)) 0 0 (.inr (3, [.ref (g_ad G 1 0), .ref (g_ad G 3 0), .int (nfS S 0), .ref (g_ad G 5 (ipS S).1), .ref (g_ad G 5 (ipS S).2), .ref (g_ad G 5 2), .ref (g_ad G 5 3), .int (nfS S 1), .ref (g_ad G 7 0), .ref (g_ad G 8 0), .int (v), .ref (g_ad G 1 1)])) := by
  refine ⟨?_, fun i' j' hj h => ?_⟩
  · rfl
  · match i', hj, h with
    | 0, hj, h =>
      exact absurd ⟨rfl, Nat.lt_one_iff.mp hj⟩ h
    | 1, _, _ => rfl
    | 2, _, _ => rfl
    | 3, _, _ => rfl
    | 4, _, _ => rfl
    | 5, _, _ => rfl
    | 6, _, _ => rfl
    | 7, _, _ => rfl
    | 8, _, _ => rfl
    | 9, _, _ => rfl
    | 10, _, _ => rfl
    | 11, _, _ => rfl
    | 12, _, _ => rfl
    | 13, _, _ => rfl
    | 14, _, _ => rfl
    | n + 15, hj, _ => exact absurd hj (Nat.not_lt_zero _)
theorem mup_ip1 (G : Gm) (S : St) (a : Nat) : mup G S (ipU S (a, (ipS S).2)) 0 0 (.inr (3, [.ref (g_ad G 1 0), .ref (g_ad G 3 0), .int (nfS S 0), .ref (g_ad G 5 a), .ref (g_ad G 5 (ipS S).2), .ref (g_ad G 5 2), .ref (g_ad G 5 3), .int (nfS S 1), .ref (g_ad G 7 0), .ref (g_ad G 8 0), .int (nfS S 2), .ref (g_ad G 1 1)])) := by
  refine ⟨?_, fun i' j' hj h => ?_⟩
  · rfl
  · match i', hj, h with
    | 0, hj, h =>
      exact absurd ⟨rfl, Nat.lt_one_iff.mp hj⟩ h
    | 1, _, _ => rfl
    | 2, _, _ => rfl
    | 3, _, _ => rfl
    | 4, _, _ => rfl
    | 5, _, _ => rfl
    | 6, _, _ => rfl
    | 7, _, _ => rfl
    | 8, _, _ => rfl
    | 9, _, _ => rfl
    | 10, _, _ => rfl
    | 11, _, _ => rfl
    | 12, _, _ => rfl
    | 13, _, _ => rfl
    | 14, _, _ => rfl
    | n + 15, hj, _ => exact absurd hj (Nat.not_lt_zero _)
theorem mup_ip2 (G : Gm) (S : St) (a : Nat) : mup G S (ipU S ((ipS S).1, a)) 0 0 (.inr (3, [.ref (g_ad G 1 0), .ref (g_ad G 3 0), .int (nfS S 0), .ref (g_ad G 5 (ipS S).1), .ref (g_ad G 5 a), .ref (g_ad G 5 2), .ref (g_ad G 5 3), .int (nfS S 1), .ref (g_ad G 7 0), .ref (g_ad G 8 0), .int (nfS S 2), .ref (g_ad G 1 1)])) := by
  refine ⟨?_, fun i' j' hj h => ?_⟩
  · rfl
  · match i', hj, h with
    | 0, hj, h =>
      exact absurd ⟨rfl, Nat.lt_one_iff.mp hj⟩ h
    | 1, _, _ => rfl
    | 2, _, _ => rfl
    | 3, _, _ => rfl
    | 4, _, _ => rfl
    | 5, _, _ => rfl
    | 6, _, _ => rfl
    | 7, _, _ => rfl
    | 8, _, _ => rfl
    | 9, _, _ => rfl
    | 10, _, _ => rfl
    | 11, _, _ => rfl
    | 12, _, _ => rfl
    | 13, _, _ => rfl
    | 14, _, _ => rfl
    | n + 15, hj, _ => exact absurd hj (Nat.not_lt_zero _)
theorem mup_mF (G : Gm) (S : St) (j : Nat) (f : Nat → UInt32) : mup G S (mFU S (va_up (mFS S) j f)) 10 j (.inl (g_cy G 0, lnF j, .inr (.inr (.inl f)))) := by
  refine ⟨?_, fun i' j' hj h => ?_⟩
  · simp [memK, mF_mF, va_up_self]
  · match i', hj, h with
    | 0, _, _ => rfl
    | 1, _, _ => rfl
    | 2, _, _ => rfl
    | 3, _, _ => rfl
    | 4, _, _ => rfl
    | 5, _, _ => rfl
    | 6, _, _ => rfl
    | 7, _, _ => rfl
    | 8, _, _ => rfl
    | 9, _, _ => rfl
    | 10, hj, h =>
      have q : j' ≠ j := fun z => h ⟨rfl, z⟩
      simp [memK, mF_mF, va_up_ne _ _ q]
    | 11, _, _ => rfl
    | 12, _, _ => rfl
    | 13, _, _ => rfl
    | 14, _, _ => rfl
    | n + 15, hj, _ => exact absurd hj (Nat.not_lt_zero _)
theorem mup_mI (G : Gm) (S : St) (j : Nat) (f : Nat → Int32) : mup G S (mIU S (va_up (mIS S) j f)) 11 j (.inl (g_cy G 1, lnI j, .inl f)) := by
  refine ⟨?_, fun i' j' hj h => ?_⟩
  · simp [memK, mI_mI, va_up_self]
  · match i', hj, h with
    | 0, _, _ => rfl
    | 1, _, _ => rfl
    | 2, _, _ => rfl
    | 3, _, _ => rfl
    | 4, _, _ => rfl
    | 5, _, _ => rfl
    | 6, _, _ => rfl
    | 7, _, _ => rfl
    | 8, _, _ => rfl
    | 9, _, _ => rfl
    | 10, _, _ => rfl
    | 11, hj, h =>
      have q : j' ≠ j := fun z => h ⟨rfl, z⟩
      simp [memK, mI_mI, va_up_ne _ _ q]
    | 12, _, _ => rfl
    | 13, _, _ => rfl
    | 14, _, _ => rfl
    | n + 15, hj, _ => exact absurd hj (Nat.not_lt_zero _)
theorem mup_mZ (G : Gm) (S : St) (j k : Nat) (b : Bool) : mup G S (mZU S (va_up (mZS S) j (va_up (mZS S j) k b))) 12 j (.inl (g_cy G 3, 512, .inl (va_up (fun q => bI (mZS S j q)) k (bI b)))) := by
  refine ⟨?_, fun i' j' hj h => ?_⟩
  · simp only [memK, mZ_mZ, va_up_self]; congr 4; funext q; by_cases hq : q = k <;> simp [va_up, hq]
  · match i', hj, h with
    | 0, _, _ => rfl
    | 1, _, _ => rfl
    | 2, _, _ => rfl
    | 3, _, _ => rfl
    | 4, _, _ => rfl
    | 5, _, _ => rfl
    | 6, _, _ => rfl
    | 7, _, _ => rfl
    | 8, _, _ => rfl
    | 9, _, _ => rfl
    | 10, _, _ => rfl
    | 11, _, _ => rfl
    | 12, hj, h =>
      have q : j' ≠ j := fun z => h ⟨rfl, z⟩
      simp [memK, mZ_mZ, va_up_ne _ _ q]
    | 13, _, _ => rfl
    | 14, _, _ => rfl
    | n + 15, hj, _ => exact absurd hj (Nat.not_lt_zero _)
theorem mup_mn0 (G : Gm) (S : St) (v : Int32) : mup G S (mnU S (va_up (mnS S) 0 v)) 9 0 (.inr (4, [.int (v), .ref (g_ad G 10 0), .ref (g_ad G 12 0), .ref (g_ad G 12 1), .ref (g_ad G 11 0), .ref (g_ad G 11 1), .ref (g_ad G 10 1), .ref (g_ad G 10 2), .ref (g_ad G 11 2), .ref (g_ad G 11 3), .ref (g_ad G 11 4), .ref (g_ad G 11 5), .int (mnS S 1), .int (mnS S 2), .ref (g_ad G 11 6), .ref (g_ad G 10 3), .ref (g_ad G 10 4)])) := by
  refine ⟨?_, fun i' j' hj h => ?_⟩
  · rfl
  · match i', hj, h with
    | 0, _, _ => rfl
    | 1, _, _ => rfl
    | 2, _, _ => rfl
    | 3, _, _ => rfl
    | 4, _, _ => rfl
    | 5, _, _ => rfl
    | 6, _, _ => rfl
    | 7, _, _ => rfl
    | 8, _, _ => rfl
    | 9, hj, h =>
      exact absurd ⟨rfl, Nat.lt_one_iff.mp hj⟩ h
    | 10, _, _ => rfl
    | 11, _, _ => rfl
    | 12, _, _ => rfl
    | 13, _, _ => rfl
    | 14, _, _ => rfl
    | n + 15, hj, _ => exact absurd hj (Nat.not_lt_zero _)
theorem mup_mn1 (G : Gm) (S : St) (v : Int32) : mup G S (mnU S (va_up (mnS S) 1 v)) 9 0 (.inr (4, [.int (mnS S 0), .ref (g_ad G 10 0), .ref (g_ad G 12 0), .ref (g_ad G 12 1), .ref (g_ad G 11 0), .ref (g_ad G 11 1), .ref (g_ad G 10 1), .ref (g_ad G 10 2), .ref (g_ad G 11 2), .ref (g_ad G 11 3), .ref (g_ad G 11 4), .ref (g_ad G 11 5), .int (v), .int (mnS S 2), .ref (g_ad G 11 6), .ref (g_ad G 10 3), .ref (g_ad G 10 4)])) := by
  refine ⟨?_, fun i' j' hj h => ?_⟩
  · rfl
  · match i', hj, h with
    | 0, _, _ => rfl
    | 1, _, _ => rfl
    | 2, _, _ => rfl
    | 3, _, _ => rfl
    | 4, _, _ => rfl
    | 5, _, _ => rfl
    | 6, _, _ => rfl
    | 7, _, _ => rfl
    | 8, _, _ => rfl
    | 9, hj, h =>
      exact absurd ⟨rfl, Nat.lt_one_iff.mp hj⟩ h
    | 10, _, _ => rfl
    | 11, _, _ => rfl
    | 12, _, _ => rfl
    | 13, _, _ => rfl
    | 14, _, _ => rfl
    | n + 15, hj, _ => exact absurd hj (Nat.not_lt_zero _)
theorem mup_mn2 (G : Gm) (S : St) (v : Int32) : mup G S (mnU S (va_up (mnS S) 2 v)) 9 0 (.inr (4, [.int (mnS S 0), .ref (g_ad G 10 0), .ref (g_ad G 12 0), .ref (g_ad G 12 1), .ref (g_ad G 11 0), .ref (g_ad G 11 1), .ref (g_ad G 10 1), .ref (g_ad G 10 2), .ref (g_ad G 11 2), .ref (g_ad G 11 3), .ref (g_ad G 11 4), .ref (g_ad G 11 5), .int (mnS S 1), .int (v), .ref (g_ad G 11 6), .ref (g_ad G 10 3), .ref (g_ad G 10 4)])) := by
  refine ⟨?_, fun i' j' hj h => ?_⟩
  · rfl
  · match i', hj, h with
    | 0, _, _ => rfl
    | 1, _, _ => rfl
    | 2, _, _ => rfl
    | 3, _, _ => rfl
    | 4, _, _ => rfl
    | 5, _, _ => rfl
    | 6, _, _ => rfl
    | 7, _, _ => rfl
    | 8, _, _ => rfl
    | 9, hj, h =>
      exact absurd ⟨rfl, Nat.lt_one_iff.mp hj⟩ h
    | 10, _, _ => rfl
    | 11, _, _ => rfl
    | 12, _, _ => rfl
    | 13, _, _ => rfl
    | 14, _, _ => rfl
    | n + 15, hj, _ => exact absurd hj (Nat.not_lt_zero _)
theorem mup_ou (G : Gm) (S : St) (f : Nat → Int64) : mup G S (ouU S f) 13 0 (.inl (g_cy G 2, 1, .inr (.inl f))) := by
  refine ⟨?_, fun i' j' hj h => ?_⟩
  · rfl
  · match i', hj, h with
    | 0, _, _ => rfl
    | 1, _, _ => rfl
    | 2, _, _ => rfl
    | 3, _, _ => rfl
    | 4, _, _ => rfl
    | 5, _, _ => rfl
    | 6, _, _ => rfl
    | 7, _, _ => rfl
    | 8, _, _ => rfl
    | 9, _, _ => rfl
    | 10, _, _ => rfl
    | 11, _, _ => rfl
    | 12, _, _ => rfl
    | 13, hj, h =>
      exact absurd ⟨rfl, Nat.lt_one_iff.mp hj⟩ h
    | 14, _, _ => rfl
    | n + 15, hj, _ => exact absurd hj (Nat.not_lt_zero _)
theorem mup_od (G : Gm) (S : St) (f : Nat → UInt64) : mup G S (odU S f) 14 0 (.inl (g_cy G 4, 1, .inr (.inr (.inr (.inl f))))) := by
  refine ⟨?_, fun i' j' hj h => ?_⟩
  · rfl
  · match i', hj, h with
    | 0, _, _ => rfl
    | 1, _, _ => rfl
    | 2, _, _ => rfl
    | 3, _, _ => rfl
    | 4, _, _ => rfl
    | 5, _, _ => rfl
    | 6, _, _ => rfl
    | 7, _, _ => rfl
    | 8, _, _ => rfl
    | 9, _, _ => rfl
    | 10, _, _ => rfl
    | 11, _, _ => rfl
    | 12, _, _ => rfl
    | 13, _, _ => rfl
    | 14, hj, h =>
      exact absurd ⟨rfl, Nat.lt_one_iff.mp hj⟩ h
    | n + 15, hj, _ => exact absurd hj (Nat.not_lt_zero _)
def fGt (x y : UInt32) : Bool := FP.fcmp x y == some .gt
def fLt (x y : UInt32) : Bool := FP.fcmp x y == some .lt
def fEq (x y : UInt32) : Bool := FP.fcmp x y == some .eq
def fLe (x y : UInt32) : Bool := fLt x y || fEq x y
def fGe (x y : UInt32) : Bool := fGt x y || fEq x y
section FR
variable {p : Program} {l : Launch} {e : Env} {R : Room} {s : State} {m : MethodId} {args : Array Value} {below : List Frame} {meth : Method} {c : Code} {H : Heap} {locs : List Loc} {cells slots : Nat} {Q : State → Prop}
variable {cc : ByteArray} {pc : Nat} {ls : Array Slot} {rest : List Value}
theorem fc_lle (hx : p.tables.exec = Jvm.exec) (hb : c.code = cc) {x y : UInt32} {off : Int} {tgt : Nat} (h1 : decode cc pc = .ok (.fcmp .l, 1)) (h2 : decode cc (pc + 1) = .ok (.ifCond .le off, 3)) (ht : ((pc + 1 : Nat) : Int) + off = (tgt : Int))
    (kt : fGt x y = false → W p l e R s m args below meth c H locs cells slots Q (F0 m tgt ls rest)) (kf : fGt x y = true → W p l e R s m args below meth c H locs cells slots Q (F0 m (pc + 4) ls rest)) : W p l e R s m args below meth c H locs cells slots Q (F0 m pc ls (.float y :: .float x :: rest)) := by
  refine lv_fcmp hx hb h1 ?_
  refine lv_if_le (tgt := tgt) hx hb h2 ht (fun h => kt ?_) (fun h => kf ?_)
  all_goals
    unfold fGt
    revert h
    generalize FP.fcmp x y = r
    rcases r with _ | (_ | _ | _) <;> decide
theorem fc_gge (hx : p.tables.exec = Jvm.exec) (hb : c.code = cc) {x y : UInt32} {off : Int} {tgt : Nat} (h1 : decode cc pc = .ok (.fcmp .g, 1)) (h2 : decode cc (pc + 1) = .ok (.ifCond .ge off, 3)) (ht : ((pc + 1 : Nat) : Int) + off = (tgt : Int))
    (kt : fLt x y = false → W p l e R s m args below meth c H locs cells slots Q (F0 m tgt ls rest)) (kf : fLt x y = true → W p l e R s m args below meth c H locs cells slots Q (F0 m (pc + 4) ls rest)) : W p l e R s m args below meth c H locs cells slots Q (F0 m pc ls (.float y :: .float x :: rest)) := by
  refine lv_fcmp hx hb h1 ?_
  refine lv_if_ge (tgt := tgt) hx hb h2 ht (fun h => kt ?_) (fun h => kf ?_)
  all_goals
    unfold fLt
    revert h
    generalize FP.fcmp x y = r
    rcases r with _ | (_ | _ | _) <;> decide
theorem fc_llt (hx : p.tables.exec = Jvm.exec) (hb : c.code = cc) {x y : UInt32} {off : Int} {tgt : Nat} (h1 : decode cc pc = .ok (.fcmp .l, 1)) (h2 : decode cc (pc + 1) = .ok (.ifCond .lt off, 3)) (ht : ((pc + 1 : Nat) : Int) + off = (tgt : Int))
    (kt : fGe x y = false → W p l e R s m args below meth c H locs cells slots Q (F0 m tgt ls rest)) (kf : fGe x y = true → W p l e R s m args below meth c H locs cells slots Q (F0 m (pc + 4) ls rest)) : W p l e R s m args below meth c H locs cells slots Q (F0 m pc ls (.float y :: .float x :: rest)) := by
  refine lv_fcmp hx hb h1 ?_
  refine lv_if_lt (tgt := tgt) hx hb h2 ht (fun h => kt ?_) (fun h => kf ?_)
  all_goals
    unfold fGe fGt fEq
    revert h
    generalize FP.fcmp x y = r
    rcases r with _ | (_ | _ | _) <;> decide
theorem fc_ggt (hx : p.tables.exec = Jvm.exec) (hb : c.code = cc) {x y : UInt32} {off : Int} {tgt : Nat} (h1 : decode cc pc = .ok (.fcmp .g, 1)) (h2 : decode cc (pc + 1) = .ok (.ifCond .gt off, 3)) (ht : ((pc + 1 : Nat) : Int) + off = (tgt : Int))
    (kt : fLe x y = false → W p l e R s m args below meth c H locs cells slots Q (F0 m tgt ls rest)) (kf : fLe x y = true → W p l e R s m args below meth c H locs cells slots Q (F0 m (pc + 4) ls rest)) : W p l e R s m args below meth c H locs cells slots Q (F0 m pc ls (.float y :: .float x :: rest)) := by
  refine lv_fcmp hx hb h1 ?_
  refine lv_if_gt (tgt := tgt) hx hb h2 ht (fun h => kt ?_) (fun h => kf ?_)
  all_goals
    unfold fLe fLt fEq
    revert h
    generalize FP.fcmp x y = r
    rcases r with _ | (_ | _ | _) <;> decide
theorem fc_lne (hx : p.tables.exec = Jvm.exec) (hb : c.code = cc) {x y : UInt32} {off : Int} {tgt : Nat} (h1 : decode cc pc = .ok (.fcmp .l, 1)) (h2 : decode cc (pc + 1) = .ok (.ifCond .ne off, 3)) (ht : ((pc + 1 : Nat) : Int) + off = (tgt : Int))
    (kt : fEq x y = false → W p l e R s m args below meth c H locs cells slots Q (F0 m tgt ls rest)) (kf : fEq x y = true → W p l e R s m args below meth c H locs cells slots Q (F0 m (pc + 4) ls rest)) : W p l e R s m args below meth c H locs cells slots Q (F0 m pc ls (.float y :: .float x :: rest)) := by
  refine lv_fcmp hx hb h1 ?_
  refine lv_if_ne (tgt := tgt) hx hb h2 ht (fun h => kt ?_) (fun h => kf ?_)
  all_goals
    unfold fEq
    revert h
    generalize FP.fcmp x y = r
    rcases r with _ | (_ | _ | _) <;> decide
theorem fc_leq (hx : p.tables.exec = Jvm.exec) (hb : c.code = cc) {x y : UInt32} {off : Int} {tgt : Nat} (h1 : decode cc pc = .ok (.fcmp .l, 1)) (h2 : decode cc (pc + 1) = .ok (.ifCond .eq off, 3)) (ht : ((pc + 1 : Nat) : Int) + off = (tgt : Int))
    (kt : fEq x y = true → W p l e R s m args below meth c H locs cells slots Q (F0 m tgt ls rest)) (kf : fEq x y = false → W p l e R s m args below meth c H locs cells slots Q (F0 m (pc + 4) ls rest)) : W p l e R s m args below meth c H locs cells slots Q (F0 m pc ls (.float y :: .float x :: rest)) := by
  refine lv_fcmp hx hb h1 ?_
  refine lv_if_eq (tgt := tgt) hx hb h2 ht (fun h => kt ?_) (fun h => kf ?_)
  all_goals
    unfold fEq
    revert h
    generalize FP.fcmp x y = r
    rcases r with _ | (_ | _ | _) <;> decide
theorem top_i {x y : Int32} (h : x = y) (k : W p l e R s m args below meth c H locs cells slots Q (F0 m pc ls (.int y :: rest))) : W p l e R s m args below meth c H locs cells slots Q (F0 m pc ls (.int x :: rest)) := h ▸ k
theorem top_f {x y : UInt32} (h : x = y) (k : W p l e R s m args below meth c H locs cells slots Q (F0 m pc ls (.float y :: rest))) : W p l e R s m args below meth c H locs cells slots Q (F0 m pc ls (.float x :: rest)) := h ▸ k
theorem top_l {x y : Int64} (h : x = y) (k : W p l e R s m args below meth c H locs cells slots Q (F0 m pc ls (.long y :: rest))) : W p l e R s m args below meth c H locs cells slots Q (F0 m pc ls (.long x :: rest)) := h ▸ k
end FR
end
section
theorem mup2_bx (G : Gm) (S : St) (j : Nat) (f g : Nat → UInt32) : mup G (bxU S (va_up (bxS S) j f)) (bxU S (va_up (bxS S) j g)) 2 j (.inl (g_cy G 0, 6, .inr (.inr (.inl g)))) := by
  refine ⟨(mup_bx G S j g).1, fun i' j' hj h => ((mup_bx G S j g).2 i' j' hj h).trans ((mup_bx G S j f).2 i' j' hj h).symm⟩
theorem mup2_pw (G : Gm) (S : St) (j : Nat) (f g : Nat → Int64) : mup G (pwU S (va_up (pwS S) j f)) (pwU S (va_up (pwS S) j g)) 6 j (.inl (g_cy G 2, 4096, .inr (.inl g))) := by
  refine ⟨(mup_pw G S j g).1, fun i' j' hj h => ((mup_pw G S j g).2 i' j' hj h).trans ((mup_pw G S j f).2 i' j' hj h).symm⟩
theorem mup2_mF (G : Gm) (S : St) (j : Nat) (f g : Nat → UInt32) : mup G (mFU S (va_up (mFS S) j f)) (mFU S (va_up (mFS S) j g)) 10 j (.inl (g_cy G 0, lnF j, .inr (.inr (.inl g)))) := by
  refine ⟨(mup_mF G S j g).1, fun i' j' hj h => ((mup_mF G S j g).2 i' j' hj h).trans ((mup_mF G S j f).2 i' j' hj h).symm⟩
theorem mup2_mI (G : Gm) (S : St) (j : Nat) (f g : Nat → Int32) : mup G (mIU S (va_up (mIS S) j f)) (mIU S (va_up (mIS S) j g)) 11 j (.inl (g_cy G 1, lnI j, .inl g)) := by
  refine ⟨(mup_mI G S j g).1, fun i' j' hj h => ((mup_mI G S j g).2 i' j' hj h).trans ((mup_mI G S j f).2 i' j' hj h).symm⟩
theorem mup2_fb (G : Gm) (S : St) (f g : Nat → Int32) : mup G (fbU S f) (fbU S g) 7 0 (.inl (g_cy G 1, 512, .inl g)) := by
  refine ⟨(mup_fb G S g).1, fun i' j' hj h => ((mup_fb G S g).2 i' j' hj h).trans ((mup_fb G S f).2 i' j' hj h).symm⟩
theorem mup2_ff (G : Gm) (S : St) (f g : Nat → UInt32) : mup G (ffU S f) (ffU S g) 8 0 (.inl (g_cy G 0, 512, .inr (.inr (.inl g)))) := by
  refine ⟨(mup_ff G S g).1, fun i' j' hj h => ((mup_ff G S g).2 i' j' hj h).trans ((mup_ff G S f).2 i' j' hj h).symm⟩
theorem mup2_ou (G : Gm) (S : St) (f g : Nat → Int64) : mup G (ouU S f) (ouU S g) 13 0 (.inl (g_cy G 2, 1, .inr (.inl g))) := by
  refine ⟨(mup_ou G S g).1, fun i' j' hj h => ((mup_ou G S g).2 i' j' hj h).trans ((mup_ou G S f).2 i' j' hj h).symm⟩
theorem mup2_od (G : Gm) (S : St) (f g : Nat → UInt64) : mup G (odU S f) (odU S g) 14 0 (.inl (g_cy G 4, 1, .inr (.inr (.inr (.inl g))))) := by
  refine ⟨(mup_od G S g).1, fun i' j' hj h => ((mup_od G S g).2 i' j' hj h).trans ((mup_od G S f).2 i' j' hj h).symm⟩
theorem mup2_ps (G : Gm) (S : St) (j : Nat) (u v : Int32) : mup G (psU S (va_up (psS S) j u)) (psU S (va_up (psS S) j v)) 5 j (.inr (2, [.ref (g_ad G 6 j), .int v])) := by
  refine ⟨(mup_ps G S j v).1, fun i' j' hj h => ((mup_ps G S j v).2 i' j' hj h).trans ((mup_ps G S j u).2 i' j' hj h).symm⟩
theorem mup2_nf0 (G : Gm) (S : St) (u v : Int32) : mup G (nfU S (va_up (nfS S) 0 u)) (nfU S (va_up (nfS S) 0 v)) 0 0 (.inr (3, [.ref (g_ad G 1 0), .ref (g_ad G 3 0), .int (v), .ref (g_ad G 5 (ipS S).1), .ref (g_ad G 5 (ipS S).2), .ref (g_ad G 5 2), .ref (g_ad G 5 3), .int (nfS S 1), .ref (g_ad G 7 0), .ref (g_ad G 8 0), .int (nfS S 2), .ref (g_ad G 1 1)])) := by
  refine ⟨(mup_nf0 G S v).1, fun i' j' hj h => ((mup_nf0 G S v).2 i' j' hj h).trans ((mup_nf0 G S u).2 i' j' hj h).symm⟩
theorem mup2_mn0 (G : Gm) (S : St) (u v : Int32) : mup G (mnU S (va_up (mnS S) 0 u)) (mnU S (va_up (mnS S) 0 v)) 9 0 (.inr (4, [.int (v), .ref (g_ad G 10 0), .ref (g_ad G 12 0), .ref (g_ad G 12 1), .ref (g_ad G 11 0), .ref (g_ad G 11 1), .ref (g_ad G 10 1), .ref (g_ad G 10 2), .ref (g_ad G 11 2), .ref (g_ad G 11 3), .ref (g_ad G 11 4), .ref (g_ad G 11 5), .int (mnS S 1), .int (mnS S 2), .ref (g_ad G 11 6), .ref (g_ad G 10 3), .ref (g_ad G 10 4)])) := by
  refine ⟨(mup_mn0 G S v).1, fun i' j' hj h => ((mup_mn0 G S v).2 i' j' hj h).trans ((mup_mn0 G S u).2 i' j' hj h).symm⟩
theorem mup2_nf1 (G : Gm) (S : St) (u v : Int32) : mup G (nfU S (va_up (nfS S) 1 u)) (nfU S (va_up (nfS S) 1 v)) 0 0 (.inr (3, [.ref (g_ad G 1 0), .ref (g_ad G 3 0), .int (nfS S 0), .ref (g_ad G 5 (ipS S).1), .ref (g_ad G 5 (ipS S).2), .ref (g_ad G 5 2), .ref (g_ad G 5 3), .int (v), .ref (g_ad G 7 0), .ref (g_ad G 8 0), .int (nfS S 2), .ref (g_ad G 1 1)])) := by
  refine ⟨(mup_nf1 G S v).1, fun i' j' hj h => ((mup_nf1 G S v).2 i' j' hj h).trans ((mup_nf1 G S u).2 i' j' hj h).symm⟩
theorem mup2_mn1 (G : Gm) (S : St) (u v : Int32) : mup G (mnU S (va_up (mnS S) 1 u)) (mnU S (va_up (mnS S) 1 v)) 9 0 (.inr (4, [.int (mnS S 0), .ref (g_ad G 10 0), .ref (g_ad G 12 0), .ref (g_ad G 12 1), .ref (g_ad G 11 0), .ref (g_ad G 11 1), .ref (g_ad G 10 1), .ref (g_ad G 10 2), .ref (g_ad G 11 2), .ref (g_ad G 11 3), .ref (g_ad G 11 4), .ref (g_ad G 11 5), .int (v), .int (mnS S 2), .ref (g_ad G 11 6), .ref (g_ad G 10 3), .ref (g_ad G 10 4)])) := by
  refine ⟨(mup_mn1 G S v).1, fun i' j' hj h => ((mup_mn1 G S v).2 i' j' hj h).trans ((mup_mn1 G S u).2 i' j' hj h).symm⟩
theorem mup2_nf2 (G : Gm) (S : St) (u v : Int32) : mup G (nfU S (va_up (nfS S) 2 u)) (nfU S (va_up (nfS S) 2 v)) 0 0 (.inr (3, [.ref (g_ad G 1 0), .ref (g_ad G 3 0), .int (nfS S 0), .ref (g_ad G 5 (ipS S).1), .ref (g_ad G 5 (ipS S).2), .ref (g_ad G 5 2), .ref (g_ad G 5 3), .int (nfS S 1), .ref (g_ad G 7 0), .ref (g_ad G 8 0), .int (v), .ref (g_ad G 1 1)])) := by
  refine ⟨(mup_nf2 G S v).1, fun i' j' hj h => ((mup_nf2 G S v).2 i' j' hj h).trans ((mup_nf2 G S u).2 i' j' hj h).symm⟩
theorem mup2_mn2 (G : Gm) (S : St) (u v : Int32) : mup G (mnU S (va_up (mnS S) 2 u)) (mnU S (va_up (mnS S) 2 v)) 9 0 (.inr (4, [.int (mnS S 0), .ref (g_ad G 10 0), .ref (g_ad G 12 0), .ref (g_ad G 12 1), .ref (g_ad G 11 0), .ref (g_ad G 11 1), .ref (g_ad G 10 1), .ref (g_ad G 10 2), .ref (g_ad G 11 2), .ref (g_ad G 11 3), .ref (g_ad G 11 4), .ref (g_ad G 11 5), .int (mnS S 1), .int (v), .ref (g_ad G 11 6), .ref (g_ad G 10 3), .ref (g_ad G 10 4)])) := by
  refine ⟨(mup_mn2 G S v).1, fun i' j' hj h => ((mup_mn2 G S v).2 i' j' hj h).trans ((mup_mn2 G S u).2 i' j' hj h).symm⟩
theorem va_S.self {A : Nat → Prop} {H0 H : Heap} {locs : List Loc} (h : va_S A H0 H locs) : va_S A H H locs := ⟨Nat.le_refl _, fun _ _ _ => rfl, h.2.2⟩
theorem va_S.tr {A : Nat → Prop} {H0 H H1 : Heap} {locs locs1 : List Loc} (h : va_S A H0 H locs) (h1 : va_S A H H1 locs1) : va_S A H0 H1 locs1 := ⟨Nat.le_trans h.1 h1.1, fun q a b => (h1.2.1 q (Nat.lt_of_lt_of_le a h.1) b).trans (h.2.1 q a b), h1.2.2⟩
theorem wdM_by {G : Gm} {S S' : St} {H H1 : Heap} {s : State} {locs1 : List Loc} {i j k : Nat} {e : va_E} (hw : wdM G S H s) (hj : j < cnt i) (hm : mup G S S' i j e) (hz : va_S (g_A G) H H1 locs1) (hk : (va_pl (g_L G) (mem G S))[k]? = some (g_ad G i j, mem G S (g_ad G i j))) (hP1 : va_P (g_dC G, g_dI G) vwCl ((va_pl (g_L G) (mem G S)).set k (g_ad G i j, e)) H1) (hD1 : va_D (g_A G) ((va_pl (g_L G) (mem G S)).set k (g_ad G i j, e))) : wdM G S' H1 s := by
  obtain ⟨hL, hA, hP, hD, z1, z2⟩ := hw
  have e1 : (va_pl (g_L G) (mem G S)).set k (g_ad G i j, e) = va_pl (g_L G) (mem G S') := by
    have := va_pl_set (X := []) (e := e) hD (hL.1 i j hj).2 hk
    rw [List.nil_append, List.nil_append] at this
    rw [this]
    exact mem_up hL hj hm
  rw [e1] at hP1 hD1
  exact ⟨hL, fun q hq => hA q (Nat.le_trans hz.1 hq), hP1, hD1, vx_Zq.kept z1 hz.2.1, vx_Zq.kept z2 hz.2.1⟩
section CP
variable {p : Program} {l : Launch} {e : Env} {R : Room} {s : State} {m : MethodId} {args : Array Value} {below : List Frame} {meth : Method} {c : Code} {H H0 : Heap} {locs : List Loc} {cells slots : Nat} {Q : State → Prop}
variable {cc : ByteArray} {pc nL : Nat} {ls : Array Slot} {rest : List Value} {Ts : List Cond} {G : Gm} {S S' : St} {own : String} {index : Nat}
theorem cpF (hx : p.tables.exec = Jvm.exec) (hb : c.code = cc) (hml : c.maxLocals = nL) (hown : s.vm.findClass own = some m.cls) (hts : ∀ w ∈ Ts, w.before args s = true) (w1 : Cond.methodLink own index arraycopyName ∈ Ts) (w2 : Cond.native arraycopyName ∈ Ts) (w3 : Cond.static arraycopyName ∈ Ts) (w4 : Cond.initialized "java/lang/System" ∈ Ts) (hsz : ls.size = nL) (hw : wdM G S H s) (hT : wdT G s) (hS : va_S (g_A G) H0 H locs) (a j : Nat) (ha : a < cnt 2) (hj : j < cnt 2) (hne : a ≠ j)
    (hm : mup G S S' 2 j (.inl (g_cy G 0, 6, .inr (.inr (.inl (va_cpy (bxS S a) (bxS S j) 0 0 6)))))) (hR1 : 1 ≤ R.frames) (hR2 : (rest.map fun v => v.category).sum + 18 ≤ R.locals) (hdg : decode cc pc = .ok (.invokestatic index, 3))
    (kk : ∀ (H1 : Heap) (locs1 : List Loc), wdM G S' H1 s → va_S (g_A G) H0 H1 locs1 → W p l e R s m args below meth c H1 locs1 cells slots Q (F0 m (pc + 3) ls rest)) : W p l e R s m args below meth c H locs cells slots Q (F0 m pc ls (.int (nI 6) :: .int (nI 0) :: .ref (g_ad G 2 j) :: .int (nI 0) :: .ref (g_ad G 2 a) :: rest)) := by
  have hw0 := hw
  obtain ⟨hL, hA, hP, hD, z1, z2⟩ := hw
  obtain ⟨k0, hk0⟩ := va_pl_get (X := []) (f := mem G S) (hL.1 2 a ha).2
  obtain ⟨k1, hk1⟩ := va_pl_get (X := []) (f := mem G S) (hL.1 2 j hj).2
  have hk0' : (va_pl (g_L G) (mem G S))[k0]? = some (g_ad G 2 a, mem G S (g_ad G 2 a)) := hk0
  have hk1' : (va_pl (g_L G) (mem G S))[k1]? = some (g_ad G 2 j, mem G S (g_ad G 2 j)) := hk1
  have q0 : (va_pl (g_L G) (mem G S))[k0]? = some (g_ad G 2 a, .inl (g_cy G 0, 6, .inr (.inr (.inl (bxS S a))))) := by rw [hk0', mem_at hL S ha]; rfl
  have q1 : (va_pl (g_L G) (mem G S))[k1]? = some (g_ad G 2 j, .inl (g_cy G 0, 6, .inr (.inr (.inl (bxS S j))))) := by rw [hk1', mem_at hL S hj]; rfl
  refine va_copyf hx hb (hml.trans hsz.symm) hown (hts _ w1) (hts _ w2) (hts _ w3) (hts _ w4) hT.1 hP hD hS.self k0 k1 0 0 q0 q1 rfl rfl rfl (by decide) (by decide) (by decide) (by decide) (by decide) (fun _ _ => rfl) hR1 hR2 hdg (fun H1 locs1 hP1 hD1 hS1 => ?_)
  exact kk H1 locs1 (wdM_by hw0 hj hm hS1 hk1' hP1 hD1) (hS.tr hS1)
theorem cpJ (hx : p.tables.exec = Jvm.exec) (hb : c.code = cc) (hml : c.maxLocals = nL) (hown : s.vm.findClass own = some m.cls) (hts : ∀ w ∈ Ts, w.before args s = true) (w1 : Cond.methodLink own index arraycopyName ∈ Ts) (w2 : Cond.native arraycopyName ∈ Ts) (w3 : Cond.static arraycopyName ∈ Ts) (w4 : Cond.initialized "java/lang/System" ∈ Ts) (hsz : ls.size = nL) (hw : wdM G S H s) (hT : wdT G s) (hS : va_S (g_A G) H0 H locs) (a j : Nat) (ha : a < cnt 6) (hj : j < cnt 6) (hne : a ≠ j)
    (hm : mup G S S' 6 j (.inl (g_cy G 2, 4096, .inr (.inl (va_cpy (pwS S a) (pwS S j) 0 0 4096))))) (hR1 : 1 ≤ R.frames) (hR2 : (rest.map fun v => v.category).sum + 18 ≤ R.locals) (hdg : decode cc pc = .ok (.invokestatic index, 3))
    (kk : ∀ (H1 : Heap) (locs1 : List Loc), wdM G S' H1 s → va_S (g_A G) H0 H1 locs1 → W p l e R s m args below meth c H1 locs1 cells slots Q (F0 m (pc + 3) ls rest)) : W p l e R s m args below meth c H locs cells slots Q (F0 m pc ls (.int (nI 4096) :: .int (nI 0) :: .ref (g_ad G 6 j) :: .int (nI 0) :: .ref (g_ad G 6 a) :: rest)) := by
  have hw0 := hw
  obtain ⟨hL, hA, hP, hD, z1, z2⟩ := hw
  obtain ⟨k0, hk0⟩ := va_pl_get (X := []) (f := mem G S) (hL.1 6 a ha).2
  obtain ⟨k1, hk1⟩ := va_pl_get (X := []) (f := mem G S) (hL.1 6 j hj).2
  have hk0' : (va_pl (g_L G) (mem G S))[k0]? = some (g_ad G 6 a, mem G S (g_ad G 6 a)) := hk0
  have hk1' : (va_pl (g_L G) (mem G S))[k1]? = some (g_ad G 6 j, mem G S (g_ad G 6 j)) := hk1
  have q0 : (va_pl (g_L G) (mem G S))[k0]? = some (g_ad G 6 a, .inl (g_cy G 2, 4096, .inr (.inl (pwS S a)))) := by rw [hk0', mem_at hL S ha]; rfl
  have q1 : (va_pl (g_L G) (mem G S))[k1]? = some (g_ad G 6 j, .inl (g_cy G 2, 4096, .inr (.inl (pwS S j)))) := by rw [hk1', mem_at hL S hj]; rfl
  refine va_copyl hx hb (hml.trans hsz.symm) hown (hts _ w1) (hts _ w2) (hts _ w3) (hts _ w4) hT.1 hP hD hS.self k0 k1 2 2 q0 q1 rfl rfl rfl (by decide) (by decide) (by decide) (by decide) (by decide) (fun _ _ => rfl) hR1 hR2 hdg (fun H1 locs1 hP1 hD1 hS1 => ?_)
  exact kk H1 locs1 (wdM_by hw0 hj hm hS1 hk1' hP1 hD1) (hS.tr hS1)
end CP
section FR
variable {p : Program} {l : Launch} {e : Env} {R : Room} {s : State} {m : MethodId} {args : Array Value} {below : List Frame} {meth : Method} {c : Code} {H : Heap} {locs : List Loc} {cells slots : Nat} {Q : State → Prop}
variable {cc : ByteArray} {pc : Nat} {ls : Array Slot} {rest : List Value}
theorem fc_lgt (hx : p.tables.exec = Jvm.exec) (hb : c.code = cc) {x y : UInt32} {off : Int} {tgt : Nat} (h1 : decode cc pc = .ok (.fcmp .l, 1)) (h2 : decode cc (pc + 1) = .ok (.ifCond .gt off, 3)) (ht : ((pc + 1 : Nat) : Int) + off = (tgt : Int))
    (kt : fGt x y = true → W p l e R s m args below meth c H locs cells slots Q (F0 m tgt ls rest)) (kf : fGt x y = false → W p l e R s m args below meth c H locs cells slots Q (F0 m (pc + 4) ls rest)) : W p l e R s m args below meth c H locs cells slots Q (F0 m pc ls (.float y :: .float x :: rest)) := by
  refine lv_fcmp hx hb h1 ?_
  refine lv_if_gt (tgt := tgt) hx hb h2 ht (fun h => kt ?_) (fun h => kf ?_)
  all_goals
    unfold fGt
    revert h
    generalize FP.fcmp x y = r
    rcases r with _ | (_ | _ | _) <;> decide
theorem fc_glt (hx : p.tables.exec = Jvm.exec) (hb : c.code = cc) {x y : UInt32} {off : Int} {tgt : Nat} (h1 : decode cc pc = .ok (.fcmp .g, 1)) (h2 : decode cc (pc + 1) = .ok (.ifCond .lt off, 3)) (ht : ((pc + 1 : Nat) : Int) + off = (tgt : Int))
    (kt : fLt x y = true → W p l e R s m args below meth c H locs cells slots Q (F0 m tgt ls rest)) (kf : fLt x y = false → W p l e R s m args below meth c H locs cells slots Q (F0 m (pc + 4) ls rest)) : W p l e R s m args below meth c H locs cells slots Q (F0 m pc ls (.float y :: .float x :: rest)) := by
  refine lv_fcmp hx hb h1 ?_
  refine lv_if_lt (tgt := tgt) hx hb h2 ht (fun h => kt ?_) (fun h => kf ?_)
  all_goals
    unfold fLt
    revert h
    generalize FP.fcmp x y = r
    rcases r with _ | (_ | _ | _) <;> decide
theorem fc_lge (hx : p.tables.exec = Jvm.exec) (hb : c.code = cc) {x y : UInt32} {off : Int} {tgt : Nat} (h1 : decode cc pc = .ok (.fcmp .l, 1)) (h2 : decode cc (pc + 1) = .ok (.ifCond .ge off, 3)) (ht : ((pc + 1 : Nat) : Int) + off = (tgt : Int))
    (kt : fGe x y = true → W p l e R s m args below meth c H locs cells slots Q (F0 m tgt ls rest)) (kf : fGe x y = false → W p l e R s m args below meth c H locs cells slots Q (F0 m (pc + 4) ls rest)) : W p l e R s m args below meth c H locs cells slots Q (F0 m pc ls (.float y :: .float x :: rest)) := by
  refine lv_fcmp hx hb h1 ?_
  refine lv_if_ge (tgt := tgt) hx hb h2 ht (fun h => kt ?_) (fun h => kf ?_)
  all_goals
    unfold fGe fGt fEq
    revert h
    generalize FP.fcmp x y = r
    rcases r with _ | (_ | _ | _) <;> decide
theorem fc_gle (hx : p.tables.exec = Jvm.exec) (hb : c.code = cc) {x y : UInt32} {off : Int} {tgt : Nat} (h1 : decode cc pc = .ok (.fcmp .g, 1)) (h2 : decode cc (pc + 1) = .ok (.ifCond .le off, 3)) (ht : ((pc + 1 : Nat) : Int) + off = (tgt : Int))
    (kt : fLe x y = true → W p l e R s m args below meth c H locs cells slots Q (F0 m tgt ls rest)) (kf : fLe x y = false → W p l e R s m args below meth c H locs cells slots Q (F0 m (pc + 4) ls rest)) : W p l e R s m args below meth c H locs cells slots Q (F0 m pc ls (.float y :: .float x :: rest)) := by
  refine lv_fcmp hx hb h1 ?_
  refine lv_if_le (tgt := tgt) hx hb h2 ht (fun h => kt ?_) (fun h => kf ?_)
  all_goals
    unfold fLe fLt fEq
    revert h
    generalize FP.fcmp x y = r
    rcases r with _ | (_ | _ | _) <;> decide
end FR
end
section
/-! Box: what its methods answer -/
def wiF (x : UInt32) (k : Int32) : Bool := fGe x (FP.i2f (-k)) && fLe x (FP.i2f k)
def bxF (f : Nat → UInt32) : Bool := !(fGt (f 0) (f 3)) && !(fGt (f 1) (f 4)) && !(fGt (f 2) (f 5))
def gdF (f : Nat → UInt32) : Bool := wiF (f 0) (nI 16384) && (wiF (f 1) (nI 16384) && (wiF (f 2) (nI 16384) && (wiF (f 3) (nI 16384) && (wiF (f 4) (nI 16384) && wiF (f 5) (nI 16384)))))
def ovF (f g : Nat → UInt32) : Bool := (!(fGt (f 0) (g 3)) && !(fGt (g 0) (f 3))) && ((!(fGt (f 1) (g 4)) && !(fGt (g 1) (f 4))) && (!(fGt (f 2) (g 5)) && !(fGt (g 2) (f 5))))
def liF (f g : Nat → UInt32) : Bool := (!(fLt (f 0) (g 0)) && !(fGt (f 3) (g 3))) && ((!(fLt (f 1) (g 1)) && !(fGt (f 4) (g 4))) && (!(fLt (f 2) (g 2)) && !(fGt (f 5) (g 5))))
def mvF (f : Nat → UInt32) (dx dy dz : UInt32) : Nat → UInt32 := va_up (va_up (va_up (va_up (va_up (va_up f 0 (FP.fadd (f 0) dx)) 1 (FP.fadd (f 1) dy)) 2 (FP.fadd (f 2) dz)) 3 (FP.fadd (f 3) dx)) 4 (FP.fadd (f 4) dy)) 5 (FP.fadd (f 5) dz)
def mvN (f : Nat → UInt32) (dx dy dz : UInt32) : Prop := vf_n32 (FP.fadd (f 0) dx) ∧ vf_n32 (FP.fadd (f 1) dy) ∧ vf_n32 (FP.fadd (f 2) dz) ∧ vf_n32 (FP.fadd (f 3) dx) ∧ vf_n32 (FP.fadd (f 4) dy) ∧ vf_n32 (FP.fadd (f 5) dz)
def waF (f : Nat → UInt32) (a : Nat) (d : UInt32) : Nat → UInt32 := if fLt d FP.fconst0 = true then va_up (va_up f a (FP.fadd (FP.fsub (f a) 1048576000) (FP.fmul d FP.fconst2))) (a + 3) (FP.fadd (f (a + 3)) 1048576000) else va_up (va_up f a (FP.fsub (f a) 1048576000)) (a + 3) (FP.fadd (FP.fadd (f (a + 3)) 1048576000) (FP.fmul d FP.fconst2))
def waN (f : Nat → UInt32) (a : Nat) (d : UInt32) : Prop := vf_n32 (FP.fsub (f a) 1048576000) ∧ vf_n32 (FP.fadd (f (a + 3)) 1048576000) ∧ vf_n32 (FP.fmul d FP.fconst2) ∧ vf_n32 (FP.fadd (FP.fsub (f a) 1048576000) (FP.fmul d FP.fconst2)) ∧ vf_n32 (FP.fadd (FP.fadd (f (a + 3)) 1048576000) (FP.fmul d FP.fconst2))
def boxU (S : St) (j : Nat) (f : Nat → UInt32) : St := bxU S (va_up (bxS S) j f)
theorem bx_s (S : St) (j : Nat) (f : Nat → UInt32) : bxS (boxU S j f) j = f := by simp [boxU, bx_bx, va_up_self]
theorem bx_ne (S : St) {j k : Nat} (f : Nat → UInt32) (h : k ≠ j) : bxS (boxU S j f) k = bxS S k := by simp [boxU, bx_bx, va_up_ne _ _ h]
theorem bx_2 (S : St) (j : Nat) (f g : Nat → UInt32) : boxU (boxU S j f) j g = boxU S j g := by
  unfold boxU
  show bxU S _ = bxU S _
  congr 1
  funext k
  by_cases h : k = j <;> simp [va_up, h, bx_bx]
def wdF (f : Nat → UInt32) (dx dy dz : UInt32) : Nat → UInt32 := waF (waF (waF f 0 dx) 1 dy) 2 dz
def wdN (f : Nat → UInt32) (dx dy dz : UInt32) : Prop := waN f 0 dx ∧ waN (waF f 0 dx) 1 dy ∧ waN (waF (waF f 0 dx) 1 dy) 2 dz
set_option maxRecDepth 100000 in
set_option maxHeartbeats 4000000 in
theorem c_isWithin (l : Launch) (G : Gm) (S : St) (x : UInt32) (k : Int32) : Pi l yX3_isWithin wsX3_isWithin ({ frames := 0, cells := 0, slots := 0, locals := 0 } : Room) [.float x, .int k] G S (bI (wiF x k)) S := by
  refine ent (cc := cX3_isWithin) (maxL := 2) (ret := (some .boolean)) (by decide) rfl (Nat.le_of_ble_eq_true rfl) ?_
  intro p e s m below meth c ls C hw hT hS hl
  obtain ⟨hx, hb, hr, hml, hown, hts, hlk⟩ := C
  have hl : lv_has ls 2 [(0, .float x), (1, .int k)] := hl
  refine lv_fload_n hx hb dX3_isWithin_0 rfl (lv_at hl 0 rfl) ?_
  refine lv_iload_n hx hb dX3_isWithin_1 rfl (lv_at hl 1 rfl) ?_
  refine lv_ineg hx hb dX3_isWithin_2 ?_
  refine lv_i2f hx hb dX3_isWithin_3 ?_
  refine fc_llt (x := x) (y := FP.i2f (-k)) (tgt := 19) hx hb dX3_isWithin_4 dX3_isWithin_5 (by decide) (fun h1 => ?_) (fun h1 => ?_)
  · skip
    refine lv_iconst (v := nI 0) hx hb dX3_isWithin_19 (by decide) ?_
    refine top_i (y := bI false) (by decide) ?_
    exact ri hx hb hlk hr hw hS (congrArg bI (by simp [wiF, h1])) (bI_nar _) (Nat.le_of_ble_eq_true rfl) (Nat.le_of_ble_eq_true rfl) dX3_isWithin_20
  · skip
    refine lv_fload_n hx hb dX3_isWithin_8 rfl (lv_at hl 0 rfl) ?_
    refine lv_iload_n hx hb dX3_isWithin_9 rfl (lv_at hl 1 rfl) ?_
    refine lv_i2f hx hb dX3_isWithin_10 ?_
    refine fc_ggt (x := x) (y := FP.i2f k) (tgt := 19) hx hb dX3_isWithin_11 dX3_isWithin_12 (by decide) (fun h2 => ?_) (fun h2 => ?_)
    · skip
      refine lv_iconst (v := nI 0) hx hb dX3_isWithin_19 (by decide) ?_
      refine top_i (y := bI false) (by decide) ?_
      exact ri hx hb hlk hr hw hS (congrArg bI (by simp [wiF, h1, h2])) (bI_nar _) (Nat.le_of_ble_eq_true rfl) (Nat.le_of_ble_eq_true rfl) dX3_isWithin_20
    · skip
      refine lv_iconst (v := nI 1) hx hb dX3_isWithin_15 (by decide) ?_
      refine lv_goto (tgt := 20) hx hb dX3_isWithin_16 (by decide) ?_
      refine top_i (y := bI true) (by decide) ?_
      exact ri hx hb hlk hr hw hS (congrArg bI (by simp [wiF, h1, h2])) (bI_nar _) (Nat.le_of_ble_eq_true rfl) (Nat.le_of_ble_eq_true rfl) dX3_isWithin_20
set_option maxRecDepth 100000 in
set_option maxHeartbeats 4000000 in
theorem c_isBox (l : Launch) (G : Gm) (S : St) (j : Nat) (hj : j < 1026) : Pi l yX1_isBox wsX1_isBox ({ frames := 0, cells := 0, slots := 0, locals := 0 } : Room) [.ref (g_ad G 1 j)] G S (bI (bxF (bxS S j))) S := by
  refine ent (cc := cX1_isBox) (maxL := 2) (ret := (some .boolean)) (by decide) rfl (Nat.le_of_ble_eq_true rfl) ?_
  intro p e s m below meth c ls C hw hT hS hl
  obtain ⟨hx, hb, hr, hml, hown, hts, hlk⟩ := C
  have hl : lv_has ls 2 [(0, .ref (g_ad G 1 j))] := hl
  refine lv_iconst (v := nI 0) hx hb dX1_isBox_0 (by decide) ?_
  refine lv_istore_n (lv' := [(1, .int (nI 0)), (0, .ref (g_ad G 1 j))]) hx hb dX1_isBox_1 rfl hl (by decide) rfl (fun ls hl => ?_)
  refine lv_iload_n hx hb dX1_isBox_2 rfl (lv_at hl 0 rfl) ?_
  refine lv_iconst (v := nI 3) hx hb dX1_isBox_3 (by decide) ?_
  refine lv_icmp_ge (tgt := 35) hx hb dX1_isBox_4 (by decide) (fun q => absurd q (by decide)) (fun _ => ?_)
  refine lv_aload_n hx hb dX1_isBox_7 rfl (lv_at hl 1 rfl) ?_
  refine gf hx hb hown hts hw hT 1 j (show j < 1026 by omega) (ci := 1) rfl rfl (fun _ h => List.mem_cons_of_mem _ (List.mem_append_right _ h)) 0 (by decide) (List.mem_of_getElem? (i := 1) rfl) (v := .ref (g_ad G 2 j)) rfl dX1_isBox_8 ?_
  refine lv_iconst (v := nI 0) hx hb dX1_isBox_11 (by decide) ?_
  refine lv_iload_n hx hb dX1_isBox_12 rfl (lv_at hl 0 rfl) ?_
  refine lv_iadd hx hb dX1_isBox_13 ?_
  refine top_i (y := nI 0) (by decide) ?_
  refine afl hx hb hw hT 2 j (show j < 1026 by omega) (f := bxS S j) rfl 0 (by decide) (by decide) dX1_isBox_14 ?_
  refine lv_aload_n hx hb dX1_isBox_15 rfl (lv_at hl 1 rfl) ?_
  refine gf hx hb hown hts hw hT 1 j (show j < 1026 by omega) (ci := 1) rfl rfl (fun _ h => List.mem_cons_of_mem _ (List.mem_append_right _ h)) 0 (by decide) (List.mem_of_getElem? (i := 1) rfl) (v := .ref (g_ad G 2 j)) rfl dX1_isBox_16 ?_
  refine lv_iconst (v := nI 3) hx hb dX1_isBox_19 (by decide) ?_
  refine lv_iload_n hx hb dX1_isBox_20 rfl (lv_at hl 0 rfl) ?_
  refine lv_iadd hx hb dX1_isBox_21 ?_
  refine top_i (y := nI 3) (by decide) ?_
  refine afl hx hb hw hT 2 j (show j < 1026 by omega) (f := bxS S j) rfl 3 (by decide) (by decide) dX1_isBox_22 ?_
  refine fc_lle (x := bxS S j 0) (y := bxS S j 3) (tgt := 29) hx hb dX1_isBox_23 dX1_isBox_24 (by decide) (fun h2 => ?_) (fun h2 => ?_)
  · skip
    refine lv_iinc (v := nI 1) (lv' := [(1, .int (nI 1)), (0, .ref (g_ad G 1 j))]) hx hb dX1_isBox_29 hl (k := 0) rfl (by decide) (by decide) rfl (fun ls hl => ?_)
    refine lv_goto (tgt := 2) hx hb dX1_isBox_32 (by decide) ?_
    refine lv_iload_n hx hb dX1_isBox_2 rfl (lv_at hl 0 rfl) ?_
    refine lv_iconst (v := nI 3) hx hb dX1_isBox_3 (by decide) ?_
    refine lv_icmp_ge (tgt := 35) hx hb dX1_isBox_4 (by decide) (fun q => absurd q (by decide)) (fun _ => ?_)
    refine lv_aload_n hx hb dX1_isBox_7 rfl (lv_at hl 1 rfl) ?_
    refine gf hx hb hown hts hw hT 1 j (show j < 1026 by omega) (ci := 1) rfl rfl (fun _ h => List.mem_cons_of_mem _ (List.mem_append_right _ h)) 0 (by decide) (List.mem_of_getElem? (i := 1) rfl) (v := .ref (g_ad G 2 j)) rfl dX1_isBox_8 ?_
    refine lv_iconst (v := nI 0) hx hb dX1_isBox_11 (by decide) ?_
    refine lv_iload_n hx hb dX1_isBox_12 rfl (lv_at hl 0 rfl) ?_
    refine lv_iadd hx hb dX1_isBox_13 ?_
    refine top_i (y := nI 1) (by decide) ?_
    refine afl hx hb hw hT 2 j (show j < 1026 by omega) (f := bxS S j) rfl 1 (by decide) (by decide) dX1_isBox_14 ?_
    refine lv_aload_n hx hb dX1_isBox_15 rfl (lv_at hl 1 rfl) ?_
    refine gf hx hb hown hts hw hT 1 j (show j < 1026 by omega) (ci := 1) rfl rfl (fun _ h => List.mem_cons_of_mem _ (List.mem_append_right _ h)) 0 (by decide) (List.mem_of_getElem? (i := 1) rfl) (v := .ref (g_ad G 2 j)) rfl dX1_isBox_16 ?_
    refine lv_iconst (v := nI 3) hx hb dX1_isBox_19 (by decide) ?_
    refine lv_iload_n hx hb dX1_isBox_20 rfl (lv_at hl 0 rfl) ?_
    refine lv_iadd hx hb dX1_isBox_21 ?_
    refine top_i (y := nI 4) (by decide) ?_
    refine afl hx hb hw hT 2 j (show j < 1026 by omega) (f := bxS S j) rfl 4 (by decide) (by decide) dX1_isBox_22 ?_
    refine fc_lle (x := bxS S j 1) (y := bxS S j 4) (tgt := 29) hx hb dX1_isBox_23 dX1_isBox_24 (by decide) (fun h4 => ?_) (fun h4 => ?_)
    · skip
      refine lv_iinc (v := nI 2) (lv' := [(1, .int (nI 2)), (0, .ref (g_ad G 1 j))]) hx hb dX1_isBox_29 hl (k := 0) rfl (by decide) (by decide) rfl (fun ls hl => ?_)
      refine lv_goto (tgt := 2) hx hb dX1_isBox_32 (by decide) ?_
      refine lv_iload_n hx hb dX1_isBox_2 rfl (lv_at hl 0 rfl) ?_
      refine lv_iconst (v := nI 3) hx hb dX1_isBox_3 (by decide) ?_
      refine lv_icmp_ge (tgt := 35) hx hb dX1_isBox_4 (by decide) (fun q => absurd q (by decide)) (fun _ => ?_)
      refine lv_aload_n hx hb dX1_isBox_7 rfl (lv_at hl 1 rfl) ?_
      refine gf hx hb hown hts hw hT 1 j (show j < 1026 by omega) (ci := 1) rfl rfl (fun _ h => List.mem_cons_of_mem _ (List.mem_append_right _ h)) 0 (by decide) (List.mem_of_getElem? (i := 1) rfl) (v := .ref (g_ad G 2 j)) rfl dX1_isBox_8 ?_
      refine lv_iconst (v := nI 0) hx hb dX1_isBox_11 (by decide) ?_
      refine lv_iload_n hx hb dX1_isBox_12 rfl (lv_at hl 0 rfl) ?_
      refine lv_iadd hx hb dX1_isBox_13 ?_
      refine top_i (y := nI 2) (by decide) ?_
      refine afl hx hb hw hT 2 j (show j < 1026 by omega) (f := bxS S j) rfl 2 (by decide) (by decide) dX1_isBox_14 ?_
      refine lv_aload_n hx hb dX1_isBox_15 rfl (lv_at hl 1 rfl) ?_
      refine gf hx hb hown hts hw hT 1 j (show j < 1026 by omega) (ci := 1) rfl rfl (fun _ h => List.mem_cons_of_mem _ (List.mem_append_right _ h)) 0 (by decide) (List.mem_of_getElem? (i := 1) rfl) (v := .ref (g_ad G 2 j)) rfl dX1_isBox_16 ?_
      refine lv_iconst (v := nI 3) hx hb dX1_isBox_19 (by decide) ?_
      refine lv_iload_n hx hb dX1_isBox_20 rfl (lv_at hl 0 rfl) ?_
      refine lv_iadd hx hb dX1_isBox_21 ?_
      refine top_i (y := nI 5) (by decide) ?_
      refine afl hx hb hw hT 2 j (show j < 1026 by omega) (f := bxS S j) rfl 5 (by decide) (by decide) dX1_isBox_22 ?_
      refine fc_lle (x := bxS S j 2) (y := bxS S j 5) (tgt := 29) hx hb dX1_isBox_23 dX1_isBox_24 (by decide) (fun h6 => ?_) (fun h6 => ?_)
      · skip
        refine lv_iinc (v := nI 3) (lv' := [(1, .int (nI 3)), (0, .ref (g_ad G 1 j))]) hx hb dX1_isBox_29 hl (k := 0) rfl (by decide) (by decide) rfl (fun ls hl => ?_)
        refine lv_goto (tgt := 2) hx hb dX1_isBox_32 (by decide) ?_
        refine lv_iload_n hx hb dX1_isBox_2 rfl (lv_at hl 0 rfl) ?_
        refine lv_iconst (v := nI 3) hx hb dX1_isBox_3 (by decide) ?_
        refine lv_icmp_ge (tgt := 35) hx hb dX1_isBox_4 (by decide) (fun _ => ?_) (fun q => absurd (by decide) q)
        refine lv_iconst (v := nI 1) hx hb dX1_isBox_35 (by decide) ?_
        refine top_i (y := bI true) (by decide) ?_
        exact ri hx hb hlk hr hw hS (congrArg bI (by simp [bxF, h2, h4, h6])) (bI_nar _) (Nat.le_of_ble_eq_true rfl) (Nat.le_of_ble_eq_true rfl) dX1_isBox_36
      · skip
        refine lv_iconst (v := nI 0) hx hb dX1_isBox_27 (by decide) ?_
        refine top_i (y := bI false) (by decide) ?_
        exact ri hx hb hlk hr hw hS (congrArg bI (by simp [bxF, h2, h4, h6])) (bI_nar _) (Nat.le_of_ble_eq_true rfl) (Nat.le_of_ble_eq_true rfl) dX1_isBox_28
    · skip
      refine lv_iconst (v := nI 0) hx hb dX1_isBox_27 (by decide) ?_
      refine top_i (y := bI false) (by decide) ?_
      exact ri hx hb hlk hr hw hS (congrArg bI (by simp [bxF, h2, h4])) (bI_nar _) (Nat.le_of_ble_eq_true rfl) (Nat.le_of_ble_eq_true rfl) dX1_isBox_28
  · skip
    refine lv_iconst (v := nI 0) hx hb dX1_isBox_27 (by decide) ?_
    refine top_i (y := bI false) (by decide) ?_
    exact ri hx hb hlk hr hw hS (congrArg bI (by simp [bxF, h2])) (bI_nar _) (Nat.le_of_ble_eq_true rfl) (Nat.le_of_ble_eq_true rfl) dX1_isBox_28
set_option maxRecDepth 100000 in
set_option maxHeartbeats 4000000 in
theorem c_isGood (l : Launch) (G : Gm) (S : St) (j : Nat) (hj : j < 1026) : Pi l yX1_isGood wsX1_isGood ({ frames := 1, cells := 0, slots := 0, locals := 21 } : Room) [.ref (g_ad G 1 j)] G S (bI (gdF (bxS S j))) S := by
  refine ent (cc := cX1_isGood) (maxL := 2) (ret := (some .boolean)) (by decide) rfl (Nat.le_of_ble_eq_true rfl) ?_
  intro p e s m below meth c ls C hw hT hS hl
  obtain ⟨hx, hb, hr, hml, hown, hts, hlk⟩ := C
  have hl : lv_has ls 2 [(0, .ref (g_ad G 1 j))] := hl
  refine lv_iconst (v := nI 0) hx hb dX1_isGood_0 (by decide) ?_
  refine lv_istore_n (lv' := [(1, .int (nI 0)), (0, .ref (g_ad G 1 j))]) hx hb dX1_isGood_1 rfl hl (by decide) rfl (fun ls hl => ?_)
  refine lv_iload_n hx hb dX1_isGood_2 rfl (lv_at hl 0 rfl) ?_
  refine lv_bipush (v := nI 6) hx hb dX1_isGood_3 (by decide) ?_
  refine lv_icmp_ge (tgt := 31) hx hb dX1_isGood_5 (by decide) (fun q => absurd q (by decide)) (fun _ => ?_)
  refine lv_aload_n hx hb dX1_isGood_8 rfl (lv_at hl 1 rfl) ?_
  refine gf hx hb hown hts hw hT 1 j (show j < 1026 by omega) (ci := 1) rfl rfl (fun _ h => List.mem_cons_of_mem _ (List.mem_append_right _ h)) 0 (by decide) (List.mem_of_getElem? (i := 1) rfl) (v := .ref (g_ad G 2 j)) rfl dX1_isGood_9 ?_
  refine lv_iload_n hx hb dX1_isGood_12 rfl (lv_at hl 0 rfl) ?_
  refine afl hx hb hw hT 2 j (show j < 1026 by omega) (f := bxS S j) rfl 0 (by decide) (by decide) dX1_isGood_13 ?_
  refine lv_sipush (v := nI 16384) hx hb dX1_isGood_14 (by decide) ?_
  refine cNi ⟨hx, hb, hml, hown, hts⟩ (c_isWithin l G S (bxS S j 0) (nI 16384)) ⟨va_cnB 2 hts gX1_isGood_X3_isWithin_n26 rfl rfl rfl hT.2.2.1 (hts _ (List.mem_of_getElem? (i := 3) rfl)) (by decide +kernel) ⟨(Nat.le_of_ble_eq_true rfl), (Nat.le_of_ble_eq_true rfl)⟩, hts _ (List.mem_of_getElem? (i := 2) rfl), trivial⟩ hw hT hS (As := [.float (bxS S j 0), .int (nI 16384)]) (rest := []) rfl hl.1 rfl (Nat.le_of_ble_eq_true rfl) dX1_isGood_17 ⟨(Nat.le_of_ble_eq_true rfl), (Nat.le_of_ble_eq_true rfl)⟩ (fun H locs hw hS => ?_)
  refine lv_if_ne (tgt := 25) hx hb dX1_isGood_20 (by decide) (fun h2 => ?_) (fun h2 => ?_)
  · skip
    have h2 := bI_n0.mp h2
    refine lv_iinc (v := nI 1) (lv' := [(1, .int (nI 1)), (0, .ref (g_ad G 1 j))]) hx hb dX1_isGood_25 hl (k := 0) rfl (by decide) (by decide) rfl (fun ls hl => ?_)
    refine lv_goto (tgt := 2) hx hb dX1_isGood_28 (by decide) ?_
    refine lv_iload_n hx hb dX1_isGood_2 rfl (lv_at hl 0 rfl) ?_
    refine lv_bipush (v := nI 6) hx hb dX1_isGood_3 (by decide) ?_
    refine lv_icmp_ge (tgt := 31) hx hb dX1_isGood_5 (by decide) (fun q => absurd q (by decide)) (fun _ => ?_)
    refine lv_aload_n hx hb dX1_isGood_8 rfl (lv_at hl 1 rfl) ?_
    refine gf hx hb hown hts hw hT 1 j (show j < 1026 by omega) (ci := 1) rfl rfl (fun _ h => List.mem_cons_of_mem _ (List.mem_append_right _ h)) 0 (by decide) (List.mem_of_getElem? (i := 1) rfl) (v := .ref (g_ad G 2 j)) rfl dX1_isGood_9 ?_
    refine lv_iload_n hx hb dX1_isGood_12 rfl (lv_at hl 0 rfl) ?_
    refine afl hx hb hw hT 2 j (show j < 1026 by omega) (f := bxS S j) rfl 1 (by decide) (by decide) dX1_isGood_13 ?_
    refine lv_sipush (v := nI 16384) hx hb dX1_isGood_14 (by decide) ?_
    refine cNi ⟨hx, hb, hml, hown, hts⟩ (c_isWithin l G S (bxS S j 1) (nI 16384)) ⟨va_cnB 2 hts gX1_isGood_X3_isWithin_n26 rfl rfl rfl hT.2.2.1 (hts _ (List.mem_of_getElem? (i := 3) rfl)) (by decide +kernel) ⟨(Nat.le_of_ble_eq_true rfl), (Nat.le_of_ble_eq_true rfl)⟩, hts _ (List.mem_of_getElem? (i := 2) rfl), trivial⟩ hw hT hS (As := [.float (bxS S j 1), .int (nI 16384)]) (rest := []) rfl hl.1 rfl (Nat.le_of_ble_eq_true rfl) dX1_isGood_17 ⟨(Nat.le_of_ble_eq_true rfl), (Nat.le_of_ble_eq_true rfl)⟩ (fun H locs hw hS => ?_)
    refine lv_if_ne (tgt := 25) hx hb dX1_isGood_20 (by decide) (fun h4 => ?_) (fun h4 => ?_)
    · skip
      have h4 := bI_n0.mp h4
      refine lv_iinc (v := nI 2) (lv' := [(1, .int (nI 2)), (0, .ref (g_ad G 1 j))]) hx hb dX1_isGood_25 hl (k := 0) rfl (by decide) (by decide) rfl (fun ls hl => ?_)
      refine lv_goto (tgt := 2) hx hb dX1_isGood_28 (by decide) ?_
      refine lv_iload_n hx hb dX1_isGood_2 rfl (lv_at hl 0 rfl) ?_
      refine lv_bipush (v := nI 6) hx hb dX1_isGood_3 (by decide) ?_
      refine lv_icmp_ge (tgt := 31) hx hb dX1_isGood_5 (by decide) (fun q => absurd q (by decide)) (fun _ => ?_)
      refine lv_aload_n hx hb dX1_isGood_8 rfl (lv_at hl 1 rfl) ?_
      refine gf hx hb hown hts hw hT 1 j (show j < 1026 by omega) (ci := 1) rfl rfl (fun _ h => List.mem_cons_of_mem _ (List.mem_append_right _ h)) 0 (by decide) (List.mem_of_getElem? (i := 1) rfl) (v := .ref (g_ad G 2 j)) rfl dX1_isGood_9 ?_
      refine lv_iload_n hx hb dX1_isGood_12 rfl (lv_at hl 0 rfl) ?_
      refine afl hx hb hw hT 2 j (show j < 1026 by omega) (f := bxS S j) rfl 2 (by decide) (by decide) dX1_isGood_13 ?_
      refine lv_sipush (v := nI 16384) hx hb dX1_isGood_14 (by decide) ?_
      refine cNi ⟨hx, hb, hml, hown, hts⟩ (c_isWithin l G S (bxS S j 2) (nI 16384)) ⟨va_cnB 2 hts gX1_isGood_X3_isWithin_n26 rfl rfl rfl hT.2.2.1 (hts _ (List.mem_of_getElem? (i := 3) rfl)) (by decide +kernel) ⟨(Nat.le_of_ble_eq_true rfl), (Nat.le_of_ble_eq_true rfl)⟩, hts _ (List.mem_of_getElem? (i := 2) rfl), trivial⟩ hw hT hS (As := [.float (bxS S j 2), .int (nI 16384)]) (rest := []) rfl hl.1 rfl (Nat.le_of_ble_eq_true rfl) dX1_isGood_17 ⟨(Nat.le_of_ble_eq_true rfl), (Nat.le_of_ble_eq_true rfl)⟩ (fun H locs hw hS => ?_)
      refine lv_if_ne (tgt := 25) hx hb dX1_isGood_20 (by decide) (fun h6 => ?_) (fun h6 => ?_)
      · skip
        have h6 := bI_n0.mp h6
        refine lv_iinc (v := nI 3) (lv' := [(1, .int (nI 3)), (0, .ref (g_ad G 1 j))]) hx hb dX1_isGood_25 hl (k := 0) rfl (by decide) (by decide) rfl (fun ls hl => ?_)
        refine lv_goto (tgt := 2) hx hb dX1_isGood_28 (by decide) ?_
        refine lv_iload_n hx hb dX1_isGood_2 rfl (lv_at hl 0 rfl) ?_
        refine lv_bipush (v := nI 6) hx hb dX1_isGood_3 (by decide) ?_
        refine lv_icmp_ge (tgt := 31) hx hb dX1_isGood_5 (by decide) (fun q => absurd q (by decide)) (fun _ => ?_)
        refine lv_aload_n hx hb dX1_isGood_8 rfl (lv_at hl 1 rfl) ?_
        refine gf hx hb hown hts hw hT 1 j (show j < 1026 by omega) (ci := 1) rfl rfl (fun _ h => List.mem_cons_of_mem _ (List.mem_append_right _ h)) 0 (by decide) (List.mem_of_getElem? (i := 1) rfl) (v := .ref (g_ad G 2 j)) rfl dX1_isGood_9 ?_
        refine lv_iload_n hx hb dX1_isGood_12 rfl (lv_at hl 0 rfl) ?_
        refine afl hx hb hw hT 2 j (show j < 1026 by omega) (f := bxS S j) rfl 3 (by decide) (by decide) dX1_isGood_13 ?_
        refine lv_sipush (v := nI 16384) hx hb dX1_isGood_14 (by decide) ?_
        refine cNi ⟨hx, hb, hml, hown, hts⟩ (c_isWithin l G S (bxS S j 3) (nI 16384)) ⟨va_cnB 2 hts gX1_isGood_X3_isWithin_n26 rfl rfl rfl hT.2.2.1 (hts _ (List.mem_of_getElem? (i := 3) rfl)) (by decide +kernel) ⟨(Nat.le_of_ble_eq_true rfl), (Nat.le_of_ble_eq_true rfl)⟩, hts _ (List.mem_of_getElem? (i := 2) rfl), trivial⟩ hw hT hS (As := [.float (bxS S j 3), .int (nI 16384)]) (rest := []) rfl hl.1 rfl (Nat.le_of_ble_eq_true rfl) dX1_isGood_17 ⟨(Nat.le_of_ble_eq_true rfl), (Nat.le_of_ble_eq_true rfl)⟩ (fun H locs hw hS => ?_)
        refine lv_if_ne (tgt := 25) hx hb dX1_isGood_20 (by decide) (fun h8 => ?_) (fun h8 => ?_)
        · skip
          have h8 := bI_n0.mp h8
          refine lv_iinc (v := nI 4) (lv' := [(1, .int (nI 4)), (0, .ref (g_ad G 1 j))]) hx hb dX1_isGood_25 hl (k := 0) rfl (by decide) (by decide) rfl (fun ls hl => ?_)
          refine lv_goto (tgt := 2) hx hb dX1_isGood_28 (by decide) ?_
          refine lv_iload_n hx hb dX1_isGood_2 rfl (lv_at hl 0 rfl) ?_
          refine lv_bipush (v := nI 6) hx hb dX1_isGood_3 (by decide) ?_
          refine lv_icmp_ge (tgt := 31) hx hb dX1_isGood_5 (by decide) (fun q => absurd q (by decide)) (fun _ => ?_)
          refine lv_aload_n hx hb dX1_isGood_8 rfl (lv_at hl 1 rfl) ?_
          refine gf hx hb hown hts hw hT 1 j (show j < 1026 by omega) (ci := 1) rfl rfl (fun _ h => List.mem_cons_of_mem _ (List.mem_append_right _ h)) 0 (by decide) (List.mem_of_getElem? (i := 1) rfl) (v := .ref (g_ad G 2 j)) rfl dX1_isGood_9 ?_
          refine lv_iload_n hx hb dX1_isGood_12 rfl (lv_at hl 0 rfl) ?_
          refine afl hx hb hw hT 2 j (show j < 1026 by omega) (f := bxS S j) rfl 4 (by decide) (by decide) dX1_isGood_13 ?_
          refine lv_sipush (v := nI 16384) hx hb dX1_isGood_14 (by decide) ?_
          refine cNi ⟨hx, hb, hml, hown, hts⟩ (c_isWithin l G S (bxS S j 4) (nI 16384)) ⟨va_cnB 2 hts gX1_isGood_X3_isWithin_n26 rfl rfl rfl hT.2.2.1 (hts _ (List.mem_of_getElem? (i := 3) rfl)) (by decide +kernel) ⟨(Nat.le_of_ble_eq_true rfl), (Nat.le_of_ble_eq_true rfl)⟩, hts _ (List.mem_of_getElem? (i := 2) rfl), trivial⟩ hw hT hS (As := [.float (bxS S j 4), .int (nI 16384)]) (rest := []) rfl hl.1 rfl (Nat.le_of_ble_eq_true rfl) dX1_isGood_17 ⟨(Nat.le_of_ble_eq_true rfl), (Nat.le_of_ble_eq_true rfl)⟩ (fun H locs hw hS => ?_)
          refine lv_if_ne (tgt := 25) hx hb dX1_isGood_20 (by decide) (fun h10 => ?_) (fun h10 => ?_)
          · skip
            have h10 := bI_n0.mp h10
            refine lv_iinc (v := nI 5) (lv' := [(1, .int (nI 5)), (0, .ref (g_ad G 1 j))]) hx hb dX1_isGood_25 hl (k := 0) rfl (by decide) (by decide) rfl (fun ls hl => ?_)
            refine lv_goto (tgt := 2) hx hb dX1_isGood_28 (by decide) ?_
            refine lv_iload_n hx hb dX1_isGood_2 rfl (lv_at hl 0 rfl) ?_
            refine lv_bipush (v := nI 6) hx hb dX1_isGood_3 (by decide) ?_
            refine lv_icmp_ge (tgt := 31) hx hb dX1_isGood_5 (by decide) (fun q => absurd q (by decide)) (fun _ => ?_)
            refine lv_aload_n hx hb dX1_isGood_8 rfl (lv_at hl 1 rfl) ?_
            refine gf hx hb hown hts hw hT 1 j (show j < 1026 by omega) (ci := 1) rfl rfl (fun _ h => List.mem_cons_of_mem _ (List.mem_append_right _ h)) 0 (by decide) (List.mem_of_getElem? (i := 1) rfl) (v := .ref (g_ad G 2 j)) rfl dX1_isGood_9 ?_
            refine lv_iload_n hx hb dX1_isGood_12 rfl (lv_at hl 0 rfl) ?_
            refine afl hx hb hw hT 2 j (show j < 1026 by omega) (f := bxS S j) rfl 5 (by decide) (by decide) dX1_isGood_13 ?_
            refine lv_sipush (v := nI 16384) hx hb dX1_isGood_14 (by decide) ?_
            refine cNi ⟨hx, hb, hml, hown, hts⟩ (c_isWithin l G S (bxS S j 5) (nI 16384)) ⟨va_cnB 2 hts gX1_isGood_X3_isWithin_n26 rfl rfl rfl hT.2.2.1 (hts _ (List.mem_of_getElem? (i := 3) rfl)) (by decide +kernel) ⟨(Nat.le_of_ble_eq_true rfl), (Nat.le_of_ble_eq_true rfl)⟩, hts _ (List.mem_of_getElem? (i := 2) rfl), trivial⟩ hw hT hS (As := [.float (bxS S j 5), .int (nI 16384)]) (rest := []) rfl hl.1 rfl (Nat.le_of_ble_eq_true rfl) dX1_isGood_17 ⟨(Nat.le_of_ble_eq_true rfl), (Nat.le_of_ble_eq_true rfl)⟩ (fun H locs hw hS => ?_)
            refine lv_if_ne (tgt := 25) hx hb dX1_isGood_20 (by decide) (fun h12 => ?_) (fun h12 => ?_)
            · skip
              have h12 := bI_n0.mp h12
              refine lv_iinc (v := nI 6) (lv' := [(1, .int (nI 6)), (0, .ref (g_ad G 1 j))]) hx hb dX1_isGood_25 hl (k := 0) rfl (by decide) (by decide) rfl (fun ls hl => ?_)
              refine lv_goto (tgt := 2) hx hb dX1_isGood_28 (by decide) ?_
              refine lv_iload_n hx hb dX1_isGood_2 rfl (lv_at hl 0 rfl) ?_
              refine lv_bipush (v := nI 6) hx hb dX1_isGood_3 (by decide) ?_
              refine lv_icmp_ge (tgt := 31) hx hb dX1_isGood_5 (by decide) (fun _ => ?_) (fun q => absurd (by decide) q)
              refine lv_iconst (v := nI 1) hx hb dX1_isGood_31 (by decide) ?_
              refine top_i (y := bI true) (by decide) ?_
              exact ri hx hb hlk hr hw hS (congrArg bI (by simp [gdF, h2, h4, h6, h8, h10, h12])) (bI_nar _) (Nat.le_of_ble_eq_true rfl) (Nat.le_of_ble_eq_true rfl) dX1_isGood_32
            · skip
              have h12 := bI_0.mp h12
              refine lv_iconst (v := nI 0) hx hb dX1_isGood_23 (by decide) ?_
              refine top_i (y := bI false) (by decide) ?_
              exact ri hx hb hlk hr hw hS (congrArg bI (by simp [gdF, h2, h4, h6, h8, h10, h12])) (bI_nar _) (Nat.le_of_ble_eq_true rfl) (Nat.le_of_ble_eq_true rfl) dX1_isGood_24
          · skip
            have h10 := bI_0.mp h10
            refine lv_iconst (v := nI 0) hx hb dX1_isGood_23 (by decide) ?_
            refine top_i (y := bI false) (by decide) ?_
            exact ri hx hb hlk hr hw hS (congrArg bI (by simp [gdF, h2, h4, h6, h8, h10])) (bI_nar _) (Nat.le_of_ble_eq_true rfl) (Nat.le_of_ble_eq_true rfl) dX1_isGood_24
        · skip
          have h8 := bI_0.mp h8
          refine lv_iconst (v := nI 0) hx hb dX1_isGood_23 (by decide) ?_
          refine top_i (y := bI false) (by decide) ?_
          exact ri hx hb hlk hr hw hS (congrArg bI (by simp [gdF, h2, h4, h6, h8])) (bI_nar _) (Nat.le_of_ble_eq_true rfl) (Nat.le_of_ble_eq_true rfl) dX1_isGood_24
      · skip
        have h6 := bI_0.mp h6
        refine lv_iconst (v := nI 0) hx hb dX1_isGood_23 (by decide) ?_
        refine top_i (y := bI false) (by decide) ?_
        exact ri hx hb hlk hr hw hS (congrArg bI (by simp [gdF, h2, h4, h6])) (bI_nar _) (Nat.le_of_ble_eq_true rfl) (Nat.le_of_ble_eq_true rfl) dX1_isGood_24
    · skip
      have h4 := bI_0.mp h4
      refine lv_iconst (v := nI 0) hx hb dX1_isGood_23 (by decide) ?_
      refine top_i (y := bI false) (by decide) ?_
      exact ri hx hb hlk hr hw hS (congrArg bI (by simp [gdF, h2, h4])) (bI_nar _) (Nat.le_of_ble_eq_true rfl) (Nat.le_of_ble_eq_true rfl) dX1_isGood_24
  · skip
    have h2 := bI_0.mp h2
    refine lv_iconst (v := nI 0) hx hb dX1_isGood_23 (by decide) ?_
    refine top_i (y := bI false) (by decide) ?_
    exact ri hx hb hlk hr hw hS (congrArg bI (by simp [gdF, h2])) (bI_nar _) (Nat.le_of_ble_eq_true rfl) (Nat.le_of_ble_eq_true rfl) dX1_isGood_24
set_option maxRecDepth 100000 in
set_option maxHeartbeats 4000000 in
theorem c_overlaps (l : Launch) (G : Gm) (S : St) (j : Nat) (hj : j < 1026) (a : Nat) (ha : a < 1026) : Pi l yX1_overlaps wsX1_overlaps ({ frames := 0, cells := 0, slots := 0, locals := 0 } : Room) [.ref (g_ad G 1 j), .ref (g_ad G 1 a)] G S (bI (ovF (bxS S j) (bxS S a))) S := by
  refine ent (cc := cX1_overlaps) (maxL := 3) (ret := (some .boolean)) (by decide) rfl (Nat.le_of_ble_eq_true rfl) ?_
  intro p e s m below meth c ls C hw hT hS hl
  obtain ⟨hx, hb, hr, hml, hown, hts, hlk⟩ := C
  have hl : lv_has ls 3 [(0, .ref (g_ad G 1 j)), (1, .ref (g_ad G 1 a))] := hl
  refine lv_iconst (v := nI 0) hx hb dX1_overlaps_0 (by decide) ?_
  refine lv_istore_n (lv' := [(2, .int (nI 0)), (0, .ref (g_ad G 1 j)), (1, .ref (g_ad G 1 a))]) hx hb dX1_overlaps_1 rfl hl (by decide) rfl (fun ls hl => ?_)
  refine lv_iload_n hx hb dX1_overlaps_2 rfl (lv_at hl 0 rfl) ?_
  refine lv_iconst (v := nI 3) hx hb dX1_overlaps_3 (by decide) ?_
  refine lv_icmp_ge (tgt := 55) hx hb dX1_overlaps_4 (by decide) (fun q => absurd q (by decide)) (fun _ => ?_)
  refine lv_aload_n hx hb dX1_overlaps_7 rfl (lv_at hl 1 rfl) ?_
  refine gf hx hb hown hts hw hT 1 j (show j < 1026 by omega) (ci := 1) rfl rfl (fun _ h => List.mem_cons_of_mem _ (List.mem_append_right _ h)) 0 (by decide) (List.mem_of_getElem? (i := 1) rfl) (v := .ref (g_ad G 2 j)) rfl dX1_overlaps_8 ?_
  refine lv_iconst (v := nI 0) hx hb dX1_overlaps_11 (by decide) ?_
  refine lv_iload_n hx hb dX1_overlaps_12 rfl (lv_at hl 0 rfl) ?_
  refine lv_iadd hx hb dX1_overlaps_13 ?_
  refine top_i (y := nI 0) (by decide) ?_
  refine afl hx hb hw hT 2 j (show j < 1026 by omega) (f := bxS S j) rfl 0 (by decide) (by decide) dX1_overlaps_14 ?_
  refine lv_aload_n hx hb dX1_overlaps_15 rfl (lv_at hl 2 rfl) ?_
  refine gf hx hb hown hts hw hT 1 a (show a < 1026 by omega) (ci := 1) rfl rfl (fun _ h => List.mem_cons_of_mem _ (List.mem_append_right _ h)) 0 (by decide) (List.mem_of_getElem? (i := 1) rfl) (v := .ref (g_ad G 2 a)) rfl dX1_overlaps_16 ?_
  refine lv_iconst (v := nI 3) hx hb dX1_overlaps_19 (by decide) ?_
  refine lv_iload_n hx hb dX1_overlaps_20 rfl (lv_at hl 0 rfl) ?_
  refine lv_iadd hx hb dX1_overlaps_21 ?_
  refine top_i (y := nI 3) (by decide) ?_
  refine afl hx hb hw hT 2 a (show a < 1026 by omega) (f := bxS S a) rfl 3 (by decide) (by decide) dX1_overlaps_22 ?_
  refine fc_lgt (x := bxS S j 0) (y := bxS S a 3) (tgt := 47) hx hb dX1_overlaps_23 dX1_overlaps_24 (by decide) (fun h2 => ?_) (fun h2 => ?_)
  · skip
    refine lv_iconst (v := nI 0) hx hb dX1_overlaps_47 (by decide) ?_
    refine top_i (y := bI false) (by decide) ?_
    exact ri hx hb hlk hr hw hS (congrArg bI (by simp [ovF, h2])) (bI_nar _) (Nat.le_of_ble_eq_true rfl) (Nat.le_of_ble_eq_true rfl) dX1_overlaps_48
  · skip
    refine lv_aload_n hx hb dX1_overlaps_27 rfl (lv_at hl 2 rfl) ?_
    refine gf hx hb hown hts hw hT 1 a (show a < 1026 by omega) (ci := 1) rfl rfl (fun _ h => List.mem_cons_of_mem _ (List.mem_append_right _ h)) 0 (by decide) (List.mem_of_getElem? (i := 1) rfl) (v := .ref (g_ad G 2 a)) rfl dX1_overlaps_28 ?_
    refine lv_iconst (v := nI 0) hx hb dX1_overlaps_31 (by decide) ?_
    refine lv_iload_n hx hb dX1_overlaps_32 rfl (lv_at hl 0 rfl) ?_
    refine lv_iadd hx hb dX1_overlaps_33 ?_
    refine top_i (y := nI 0) (by decide) ?_
    refine afl hx hb hw hT 2 a (show a < 1026 by omega) (f := bxS S a) rfl 0 (by decide) (by decide) dX1_overlaps_34 ?_
    refine lv_aload_n hx hb dX1_overlaps_35 rfl (lv_at hl 1 rfl) ?_
    refine gf hx hb hown hts hw hT 1 j (show j < 1026 by omega) (ci := 1) rfl rfl (fun _ h => List.mem_cons_of_mem _ (List.mem_append_right _ h)) 0 (by decide) (List.mem_of_getElem? (i := 1) rfl) (v := .ref (g_ad G 2 j)) rfl dX1_overlaps_36 ?_
    refine lv_iconst (v := nI 3) hx hb dX1_overlaps_39 (by decide) ?_
    refine lv_iload_n hx hb dX1_overlaps_40 rfl (lv_at hl 0 rfl) ?_
    refine lv_iadd hx hb dX1_overlaps_41 ?_
    refine top_i (y := nI 3) (by decide) ?_
    refine afl hx hb hw hT 2 j (show j < 1026 by omega) (f := bxS S j) rfl 3 (by decide) (by decide) dX1_overlaps_42 ?_
    refine fc_lle (x := bxS S a 0) (y := bxS S j 3) (tgt := 49) hx hb dX1_overlaps_43 dX1_overlaps_44 (by decide) (fun h3 => ?_) (fun h3 => ?_)
    · skip
      refine lv_iinc (v := nI 1) (lv' := [(2, .int (nI 1)), (0, .ref (g_ad G 1 j)), (1, .ref (g_ad G 1 a))]) hx hb dX1_overlaps_49 hl (k := 0) rfl (by decide) (by decide) rfl (fun ls hl => ?_)
      refine lv_goto (tgt := 2) hx hb dX1_overlaps_52 (by decide) ?_
      refine lv_iload_n hx hb dX1_overlaps_2 rfl (lv_at hl 0 rfl) ?_
      refine lv_iconst (v := nI 3) hx hb dX1_overlaps_3 (by decide) ?_
      refine lv_icmp_ge (tgt := 55) hx hb dX1_overlaps_4 (by decide) (fun q => absurd q (by decide)) (fun _ => ?_)
      refine lv_aload_n hx hb dX1_overlaps_7 rfl (lv_at hl 1 rfl) ?_
      refine gf hx hb hown hts hw hT 1 j (show j < 1026 by omega) (ci := 1) rfl rfl (fun _ h => List.mem_cons_of_mem _ (List.mem_append_right _ h)) 0 (by decide) (List.mem_of_getElem? (i := 1) rfl) (v := .ref (g_ad G 2 j)) rfl dX1_overlaps_8 ?_
      refine lv_iconst (v := nI 0) hx hb dX1_overlaps_11 (by decide) ?_
      refine lv_iload_n hx hb dX1_overlaps_12 rfl (lv_at hl 0 rfl) ?_
      refine lv_iadd hx hb dX1_overlaps_13 ?_
      refine top_i (y := nI 1) (by decide) ?_
      refine afl hx hb hw hT 2 j (show j < 1026 by omega) (f := bxS S j) rfl 1 (by decide) (by decide) dX1_overlaps_14 ?_
      refine lv_aload_n hx hb dX1_overlaps_15 rfl (lv_at hl 2 rfl) ?_
      refine gf hx hb hown hts hw hT 1 a (show a < 1026 by omega) (ci := 1) rfl rfl (fun _ h => List.mem_cons_of_mem _ (List.mem_append_right _ h)) 0 (by decide) (List.mem_of_getElem? (i := 1) rfl) (v := .ref (g_ad G 2 a)) rfl dX1_overlaps_16 ?_
      refine lv_iconst (v := nI 3) hx hb dX1_overlaps_19 (by decide) ?_
      refine lv_iload_n hx hb dX1_overlaps_20 rfl (lv_at hl 0 rfl) ?_
      refine lv_iadd hx hb dX1_overlaps_21 ?_
      refine top_i (y := nI 4) (by decide) ?_
      refine afl hx hb hw hT 2 a (show a < 1026 by omega) (f := bxS S a) rfl 4 (by decide) (by decide) dX1_overlaps_22 ?_
      refine fc_lgt (x := bxS S j 1) (y := bxS S a 4) (tgt := 47) hx hb dX1_overlaps_23 dX1_overlaps_24 (by decide) (fun h5 => ?_) (fun h5 => ?_)
      · skip
        refine lv_iconst (v := nI 0) hx hb dX1_overlaps_47 (by decide) ?_
        refine top_i (y := bI false) (by decide) ?_
        exact ri hx hb hlk hr hw hS (congrArg bI (by simp [ovF, h2, h3, h5])) (bI_nar _) (Nat.le_of_ble_eq_true rfl) (Nat.le_of_ble_eq_true rfl) dX1_overlaps_48
      · skip
        refine lv_aload_n hx hb dX1_overlaps_27 rfl (lv_at hl 2 rfl) ?_
        refine gf hx hb hown hts hw hT 1 a (show a < 1026 by omega) (ci := 1) rfl rfl (fun _ h => List.mem_cons_of_mem _ (List.mem_append_right _ h)) 0 (by decide) (List.mem_of_getElem? (i := 1) rfl) (v := .ref (g_ad G 2 a)) rfl dX1_overlaps_28 ?_
        refine lv_iconst (v := nI 0) hx hb dX1_overlaps_31 (by decide) ?_
        refine lv_iload_n hx hb dX1_overlaps_32 rfl (lv_at hl 0 rfl) ?_
        refine lv_iadd hx hb dX1_overlaps_33 ?_
        refine top_i (y := nI 1) (by decide) ?_
        refine afl hx hb hw hT 2 a (show a < 1026 by omega) (f := bxS S a) rfl 1 (by decide) (by decide) dX1_overlaps_34 ?_
        refine lv_aload_n hx hb dX1_overlaps_35 rfl (lv_at hl 1 rfl) ?_
        refine gf hx hb hown hts hw hT 1 j (show j < 1026 by omega) (ci := 1) rfl rfl (fun _ h => List.mem_cons_of_mem _ (List.mem_append_right _ h)) 0 (by decide) (List.mem_of_getElem? (i := 1) rfl) (v := .ref (g_ad G 2 j)) rfl dX1_overlaps_36 ?_
        refine lv_iconst (v := nI 3) hx hb dX1_overlaps_39 (by decide) ?_
        refine lv_iload_n hx hb dX1_overlaps_40 rfl (lv_at hl 0 rfl) ?_
        refine lv_iadd hx hb dX1_overlaps_41 ?_
        refine top_i (y := nI 4) (by decide) ?_
        refine afl hx hb hw hT 2 j (show j < 1026 by omega) (f := bxS S j) rfl 4 (by decide) (by decide) dX1_overlaps_42 ?_
        refine fc_lle (x := bxS S a 1) (y := bxS S j 4) (tgt := 49) hx hb dX1_overlaps_43 dX1_overlaps_44 (by decide) (fun h6 => ?_) (fun h6 => ?_)
        · skip
          refine lv_iinc (v := nI 2) (lv' := [(2, .int (nI 2)), (0, .ref (g_ad G 1 j)), (1, .ref (g_ad G 1 a))]) hx hb dX1_overlaps_49 hl (k := 0) rfl (by decide) (by decide) rfl (fun ls hl => ?_)
          refine lv_goto (tgt := 2) hx hb dX1_overlaps_52 (by decide) ?_
          refine lv_iload_n hx hb dX1_overlaps_2 rfl (lv_at hl 0 rfl) ?_
          refine lv_iconst (v := nI 3) hx hb dX1_overlaps_3 (by decide) ?_
          refine lv_icmp_ge (tgt := 55) hx hb dX1_overlaps_4 (by decide) (fun q => absurd q (by decide)) (fun _ => ?_)
          refine lv_aload_n hx hb dX1_overlaps_7 rfl (lv_at hl 1 rfl) ?_
          refine gf hx hb hown hts hw hT 1 j (show j < 1026 by omega) (ci := 1) rfl rfl (fun _ h => List.mem_cons_of_mem _ (List.mem_append_right _ h)) 0 (by decide) (List.mem_of_getElem? (i := 1) rfl) (v := .ref (g_ad G 2 j)) rfl dX1_overlaps_8 ?_
          refine lv_iconst (v := nI 0) hx hb dX1_overlaps_11 (by decide) ?_
          refine lv_iload_n hx hb dX1_overlaps_12 rfl (lv_at hl 0 rfl) ?_
          refine lv_iadd hx hb dX1_overlaps_13 ?_
          refine top_i (y := nI 2) (by decide) ?_
          refine afl hx hb hw hT 2 j (show j < 1026 by omega) (f := bxS S j) rfl 2 (by decide) (by decide) dX1_overlaps_14 ?_
          refine lv_aload_n hx hb dX1_overlaps_15 rfl (lv_at hl 2 rfl) ?_
          refine gf hx hb hown hts hw hT 1 a (show a < 1026 by omega) (ci := 1) rfl rfl (fun _ h => List.mem_cons_of_mem _ (List.mem_append_right _ h)) 0 (by decide) (List.mem_of_getElem? (i := 1) rfl) (v := .ref (g_ad G 2 a)) rfl dX1_overlaps_16 ?_
          refine lv_iconst (v := nI 3) hx hb dX1_overlaps_19 (by decide) ?_
          refine lv_iload_n hx hb dX1_overlaps_20 rfl (lv_at hl 0 rfl) ?_
          refine lv_iadd hx hb dX1_overlaps_21 ?_
          refine top_i (y := nI 5) (by decide) ?_
          refine afl hx hb hw hT 2 a (show a < 1026 by omega) (f := bxS S a) rfl 5 (by decide) (by decide) dX1_overlaps_22 ?_
          refine fc_lgt (x := bxS S j 2) (y := bxS S a 5) (tgt := 47) hx hb dX1_overlaps_23 dX1_overlaps_24 (by decide) (fun h8 => ?_) (fun h8 => ?_)
          · skip
            refine lv_iconst (v := nI 0) hx hb dX1_overlaps_47 (by decide) ?_
            refine top_i (y := bI false) (by decide) ?_
            exact ri hx hb hlk hr hw hS (congrArg bI (by simp [ovF, h2, h3, h5, h6, h8])) (bI_nar _) (Nat.le_of_ble_eq_true rfl) (Nat.le_of_ble_eq_true rfl) dX1_overlaps_48
          · skip
            refine lv_aload_n hx hb dX1_overlaps_27 rfl (lv_at hl 2 rfl) ?_
            refine gf hx hb hown hts hw hT 1 a (show a < 1026 by omega) (ci := 1) rfl rfl (fun _ h => List.mem_cons_of_mem _ (List.mem_append_right _ h)) 0 (by decide) (List.mem_of_getElem? (i := 1) rfl) (v := .ref (g_ad G 2 a)) rfl dX1_overlaps_28 ?_
            refine lv_iconst (v := nI 0) hx hb dX1_overlaps_31 (by decide) ?_
            refine lv_iload_n hx hb dX1_overlaps_32 rfl (lv_at hl 0 rfl) ?_
            refine lv_iadd hx hb dX1_overlaps_33 ?_
            refine top_i (y := nI 2) (by decide) ?_
            refine afl hx hb hw hT 2 a (show a < 1026 by omega) (f := bxS S a) rfl 2 (by decide) (by decide) dX1_overlaps_34 ?_
            refine lv_aload_n hx hb dX1_overlaps_35 rfl (lv_at hl 1 rfl) ?_
            refine gf hx hb hown hts hw hT 1 j (show j < 1026 by omega) (ci := 1) rfl rfl (fun _ h => List.mem_cons_of_mem _ (List.mem_append_right _ h)) 0 (by decide) (List.mem_of_getElem? (i := 1) rfl) (v := .ref (g_ad G 2 j)) rfl dX1_overlaps_36 ?_
            refine lv_iconst (v := nI 3) hx hb dX1_overlaps_39 (by decide) ?_
            refine lv_iload_n hx hb dX1_overlaps_40 rfl (lv_at hl 0 rfl) ?_
            refine lv_iadd hx hb dX1_overlaps_41 ?_
            refine top_i (y := nI 5) (by decide) ?_
            refine afl hx hb hw hT 2 j (show j < 1026 by omega) (f := bxS S j) rfl 5 (by decide) (by decide) dX1_overlaps_42 ?_
            refine fc_lle (x := bxS S a 2) (y := bxS S j 5) (tgt := 49) hx hb dX1_overlaps_43 dX1_overlaps_44 (by decide) (fun h9 => ?_) (fun h9 => ?_)
            · skip
              refine lv_iinc (v := nI 3) (lv' := [(2, .int (nI 3)), (0, .ref (g_ad G 1 j)), (1, .ref (g_ad G 1 a))]) hx hb dX1_overlaps_49 hl (k := 0) rfl (by decide) (by decide) rfl (fun ls hl => ?_)
              refine lv_goto (tgt := 2) hx hb dX1_overlaps_52 (by decide) ?_
              refine lv_iload_n hx hb dX1_overlaps_2 rfl (lv_at hl 0 rfl) ?_
              refine lv_iconst (v := nI 3) hx hb dX1_overlaps_3 (by decide) ?_
              refine lv_icmp_ge (tgt := 55) hx hb dX1_overlaps_4 (by decide) (fun _ => ?_) (fun q => absurd (by decide) q)
              refine lv_iconst (v := nI 1) hx hb dX1_overlaps_55 (by decide) ?_
              refine top_i (y := bI true) (by decide) ?_
              exact ri hx hb hlk hr hw hS (congrArg bI (by simp [ovF, h2, h3, h5, h6, h8, h9])) (bI_nar _) (Nat.le_of_ble_eq_true rfl) (Nat.le_of_ble_eq_true rfl) dX1_overlaps_56
            · skip
              refine lv_iconst (v := nI 0) hx hb dX1_overlaps_47 (by decide) ?_
              refine top_i (y := bI false) (by decide) ?_
              exact ri hx hb hlk hr hw hS (congrArg bI (by simp [ovF, h2, h3, h5, h6, h8, h9])) (bI_nar _) (Nat.le_of_ble_eq_true rfl) (Nat.le_of_ble_eq_true rfl) dX1_overlaps_48
        · skip
          refine lv_iconst (v := nI 0) hx hb dX1_overlaps_47 (by decide) ?_
          refine top_i (y := bI false) (by decide) ?_
          exact ri hx hb hlk hr hw hS (congrArg bI (by simp [ovF, h2, h3, h5, h6])) (bI_nar _) (Nat.le_of_ble_eq_true rfl) (Nat.le_of_ble_eq_true rfl) dX1_overlaps_48
    · skip
      refine lv_iconst (v := nI 0) hx hb dX1_overlaps_47 (by decide) ?_
      refine top_i (y := bI false) (by decide) ?_
      exact ri hx hb hlk hr hw hS (congrArg bI (by simp [ovF, h2, h3])) (bI_nar _) (Nat.le_of_ble_eq_true rfl) (Nat.le_of_ble_eq_true rfl) dX1_overlaps_48
set_option maxRecDepth 100000 in
set_option maxHeartbeats 4000000 in
theorem c_liesIn (l : Launch) (G : Gm) (S : St) (j : Nat) (hj : j < 1026) (a : Nat) (ha : a < 1026) : Pi l yX1_liesIn wsX1_liesIn ({ frames := 0, cells := 0, slots := 0, locals := 0 } : Room) [.ref (g_ad G 1 j), .ref (g_ad G 1 a)] G S (bI (liF (bxS S j) (bxS S a))) S := by
  refine ent (cc := cX1_liesIn) (maxL := 3) (ret := (some .boolean)) (by decide) rfl (Nat.le_of_ble_eq_true rfl) ?_
  intro p e s m below meth c ls C hw hT hS hl
  obtain ⟨hx, hb, hr, hml, hown, hts, hlk⟩ := C
  have hl : lv_has ls 3 [(0, .ref (g_ad G 1 j)), (1, .ref (g_ad G 1 a))] := hl
  refine lv_iconst (v := nI 0) hx hb dX1_liesIn_0 (by decide) ?_
  refine lv_istore_n (lv' := [(2, .int (nI 0)), (0, .ref (g_ad G 1 j)), (1, .ref (g_ad G 1 a))]) hx hb dX1_liesIn_1 rfl hl (by decide) rfl (fun ls hl => ?_)
  refine lv_iload_n hx hb dX1_liesIn_2 rfl (lv_at hl 0 rfl) ?_
  refine lv_iconst (v := nI 3) hx hb dX1_liesIn_3 (by decide) ?_
  refine lv_icmp_ge (tgt := 55) hx hb dX1_liesIn_4 (by decide) (fun q => absurd q (by decide)) (fun _ => ?_)
  refine lv_aload_n hx hb dX1_liesIn_7 rfl (lv_at hl 1 rfl) ?_
  refine gf hx hb hown hts hw hT 1 j (show j < 1026 by omega) (ci := 1) rfl rfl (fun _ h => List.mem_cons_of_mem _ (List.mem_append_right _ h)) 0 (by decide) (List.mem_of_getElem? (i := 1) rfl) (v := .ref (g_ad G 2 j)) rfl dX1_liesIn_8 ?_
  refine lv_iconst (v := nI 0) hx hb dX1_liesIn_11 (by decide) ?_
  refine lv_iload_n hx hb dX1_liesIn_12 rfl (lv_at hl 0 rfl) ?_
  refine lv_iadd hx hb dX1_liesIn_13 ?_
  refine top_i (y := nI 0) (by decide) ?_
  refine afl hx hb hw hT 2 j (show j < 1026 by omega) (f := bxS S j) rfl 0 (by decide) (by decide) dX1_liesIn_14 ?_
  refine lv_aload_n hx hb dX1_liesIn_15 rfl (lv_at hl 2 rfl) ?_
  refine gf hx hb hown hts hw hT 1 a (show a < 1026 by omega) (ci := 1) rfl rfl (fun _ h => List.mem_cons_of_mem _ (List.mem_append_right _ h)) 0 (by decide) (List.mem_of_getElem? (i := 1) rfl) (v := .ref (g_ad G 2 a)) rfl dX1_liesIn_16 ?_
  refine lv_iconst (v := nI 0) hx hb dX1_liesIn_19 (by decide) ?_
  refine lv_iload_n hx hb dX1_liesIn_20 rfl (lv_at hl 0 rfl) ?_
  refine lv_iadd hx hb dX1_liesIn_21 ?_
  refine top_i (y := nI 0) (by decide) ?_
  refine afl hx hb hw hT 2 a (show a < 1026 by omega) (f := bxS S a) rfl 0 (by decide) (by decide) dX1_liesIn_22 ?_
  refine fc_glt (x := bxS S j 0) (y := bxS S a 0) (tgt := 47) hx hb dX1_liesIn_23 dX1_liesIn_24 (by decide) (fun h2 => ?_) (fun h2 => ?_)
  · skip
    refine lv_iconst (v := nI 0) hx hb dX1_liesIn_47 (by decide) ?_
    refine top_i (y := bI false) (by decide) ?_
    exact ri hx hb hlk hr hw hS (congrArg bI (by simp [liF, h2])) (bI_nar _) (Nat.le_of_ble_eq_true rfl) (Nat.le_of_ble_eq_true rfl) dX1_liesIn_48
  · skip
    refine lv_aload_n hx hb dX1_liesIn_27 rfl (lv_at hl 1 rfl) ?_
    refine gf hx hb hown hts hw hT 1 j (show j < 1026 by omega) (ci := 1) rfl rfl (fun _ h => List.mem_cons_of_mem _ (List.mem_append_right _ h)) 0 (by decide) (List.mem_of_getElem? (i := 1) rfl) (v := .ref (g_ad G 2 j)) rfl dX1_liesIn_28 ?_
    refine lv_iconst (v := nI 3) hx hb dX1_liesIn_31 (by decide) ?_
    refine lv_iload_n hx hb dX1_liesIn_32 rfl (lv_at hl 0 rfl) ?_
    refine lv_iadd hx hb dX1_liesIn_33 ?_
    refine top_i (y := nI 3) (by decide) ?_
    refine afl hx hb hw hT 2 j (show j < 1026 by omega) (f := bxS S j) rfl 3 (by decide) (by decide) dX1_liesIn_34 ?_
    refine lv_aload_n hx hb dX1_liesIn_35 rfl (lv_at hl 2 rfl) ?_
    refine gf hx hb hown hts hw hT 1 a (show a < 1026 by omega) (ci := 1) rfl rfl (fun _ h => List.mem_cons_of_mem _ (List.mem_append_right _ h)) 0 (by decide) (List.mem_of_getElem? (i := 1) rfl) (v := .ref (g_ad G 2 a)) rfl dX1_liesIn_36 ?_
    refine lv_iconst (v := nI 3) hx hb dX1_liesIn_39 (by decide) ?_
    refine lv_iload_n hx hb dX1_liesIn_40 rfl (lv_at hl 0 rfl) ?_
    refine lv_iadd hx hb dX1_liesIn_41 ?_
    refine top_i (y := nI 3) (by decide) ?_
    refine afl hx hb hw hT 2 a (show a < 1026 by omega) (f := bxS S a) rfl 3 (by decide) (by decide) dX1_liesIn_42 ?_
    refine fc_lle (x := bxS S j 3) (y := bxS S a 3) (tgt := 49) hx hb dX1_liesIn_43 dX1_liesIn_44 (by decide) (fun h3 => ?_) (fun h3 => ?_)
    · skip
      refine lv_iinc (v := nI 1) (lv' := [(2, .int (nI 1)), (0, .ref (g_ad G 1 j)), (1, .ref (g_ad G 1 a))]) hx hb dX1_liesIn_49 hl (k := 0) rfl (by decide) (by decide) rfl (fun ls hl => ?_)
      refine lv_goto (tgt := 2) hx hb dX1_liesIn_52 (by decide) ?_
      refine lv_iload_n hx hb dX1_liesIn_2 rfl (lv_at hl 0 rfl) ?_
      refine lv_iconst (v := nI 3) hx hb dX1_liesIn_3 (by decide) ?_
      refine lv_icmp_ge (tgt := 55) hx hb dX1_liesIn_4 (by decide) (fun q => absurd q (by decide)) (fun _ => ?_)
      refine lv_aload_n hx hb dX1_liesIn_7 rfl (lv_at hl 1 rfl) ?_
      refine gf hx hb hown hts hw hT 1 j (show j < 1026 by omega) (ci := 1) rfl rfl (fun _ h => List.mem_cons_of_mem _ (List.mem_append_right _ h)) 0 (by decide) (List.mem_of_getElem? (i := 1) rfl) (v := .ref (g_ad G 2 j)) rfl dX1_liesIn_8 ?_
      refine lv_iconst (v := nI 0) hx hb dX1_liesIn_11 (by decide) ?_
      refine lv_iload_n hx hb dX1_liesIn_12 rfl (lv_at hl 0 rfl) ?_
      refine lv_iadd hx hb dX1_liesIn_13 ?_
      refine top_i (y := nI 1) (by decide) ?_
      refine afl hx hb hw hT 2 j (show j < 1026 by omega) (f := bxS S j) rfl 1 (by decide) (by decide) dX1_liesIn_14 ?_
      refine lv_aload_n hx hb dX1_liesIn_15 rfl (lv_at hl 2 rfl) ?_
      refine gf hx hb hown hts hw hT 1 a (show a < 1026 by omega) (ci := 1) rfl rfl (fun _ h => List.mem_cons_of_mem _ (List.mem_append_right _ h)) 0 (by decide) (List.mem_of_getElem? (i := 1) rfl) (v := .ref (g_ad G 2 a)) rfl dX1_liesIn_16 ?_
      refine lv_iconst (v := nI 0) hx hb dX1_liesIn_19 (by decide) ?_
      refine lv_iload_n hx hb dX1_liesIn_20 rfl (lv_at hl 0 rfl) ?_
      refine lv_iadd hx hb dX1_liesIn_21 ?_
      refine top_i (y := nI 1) (by decide) ?_
      refine afl hx hb hw hT 2 a (show a < 1026 by omega) (f := bxS S a) rfl 1 (by decide) (by decide) dX1_liesIn_22 ?_
      refine fc_glt (x := bxS S j 1) (y := bxS S a 1) (tgt := 47) hx hb dX1_liesIn_23 dX1_liesIn_24 (by decide) (fun h5 => ?_) (fun h5 => ?_)
      · skip
        refine lv_iconst (v := nI 0) hx hb dX1_liesIn_47 (by decide) ?_
        refine top_i (y := bI false) (by decide) ?_
        exact ri hx hb hlk hr hw hS (congrArg bI (by simp [liF, h2, h3, h5])) (bI_nar _) (Nat.le_of_ble_eq_true rfl) (Nat.le_of_ble_eq_true rfl) dX1_liesIn_48
      · skip
        refine lv_aload_n hx hb dX1_liesIn_27 rfl (lv_at hl 1 rfl) ?_
        refine gf hx hb hown hts hw hT 1 j (show j < 1026 by omega) (ci := 1) rfl rfl (fun _ h => List.mem_cons_of_mem _ (List.mem_append_right _ h)) 0 (by decide) (List.mem_of_getElem? (i := 1) rfl) (v := .ref (g_ad G 2 j)) rfl dX1_liesIn_28 ?_
        refine lv_iconst (v := nI 3) hx hb dX1_liesIn_31 (by decide) ?_
        refine lv_iload_n hx hb dX1_liesIn_32 rfl (lv_at hl 0 rfl) ?_
        refine lv_iadd hx hb dX1_liesIn_33 ?_
        refine top_i (y := nI 4) (by decide) ?_
        refine afl hx hb hw hT 2 j (show j < 1026 by omega) (f := bxS S j) rfl 4 (by decide) (by decide) dX1_liesIn_34 ?_
        refine lv_aload_n hx hb dX1_liesIn_35 rfl (lv_at hl 2 rfl) ?_
        refine gf hx hb hown hts hw hT 1 a (show a < 1026 by omega) (ci := 1) rfl rfl (fun _ h => List.mem_cons_of_mem _ (List.mem_append_right _ h)) 0 (by decide) (List.mem_of_getElem? (i := 1) rfl) (v := .ref (g_ad G 2 a)) rfl dX1_liesIn_36 ?_
        refine lv_iconst (v := nI 3) hx hb dX1_liesIn_39 (by decide) ?_
        refine lv_iload_n hx hb dX1_liesIn_40 rfl (lv_at hl 0 rfl) ?_
        refine lv_iadd hx hb dX1_liesIn_41 ?_
        refine top_i (y := nI 4) (by decide) ?_
        refine afl hx hb hw hT 2 a (show a < 1026 by omega) (f := bxS S a) rfl 4 (by decide) (by decide) dX1_liesIn_42 ?_
        refine fc_lle (x := bxS S j 4) (y := bxS S a 4) (tgt := 49) hx hb dX1_liesIn_43 dX1_liesIn_44 (by decide) (fun h6 => ?_) (fun h6 => ?_)
        · skip
          refine lv_iinc (v := nI 2) (lv' := [(2, .int (nI 2)), (0, .ref (g_ad G 1 j)), (1, .ref (g_ad G 1 a))]) hx hb dX1_liesIn_49 hl (k := 0) rfl (by decide) (by decide) rfl (fun ls hl => ?_)
          refine lv_goto (tgt := 2) hx hb dX1_liesIn_52 (by decide) ?_
          refine lv_iload_n hx hb dX1_liesIn_2 rfl (lv_at hl 0 rfl) ?_
          refine lv_iconst (v := nI 3) hx hb dX1_liesIn_3 (by decide) ?_
          refine lv_icmp_ge (tgt := 55) hx hb dX1_liesIn_4 (by decide) (fun q => absurd q (by decide)) (fun _ => ?_)
          refine lv_aload_n hx hb dX1_liesIn_7 rfl (lv_at hl 1 rfl) ?_
          refine gf hx hb hown hts hw hT 1 j (show j < 1026 by omega) (ci := 1) rfl rfl (fun _ h => List.mem_cons_of_mem _ (List.mem_append_right _ h)) 0 (by decide) (List.mem_of_getElem? (i := 1) rfl) (v := .ref (g_ad G 2 j)) rfl dX1_liesIn_8 ?_
          refine lv_iconst (v := nI 0) hx hb dX1_liesIn_11 (by decide) ?_
          refine lv_iload_n hx hb dX1_liesIn_12 rfl (lv_at hl 0 rfl) ?_
          refine lv_iadd hx hb dX1_liesIn_13 ?_
          refine top_i (y := nI 2) (by decide) ?_
          refine afl hx hb hw hT 2 j (show j < 1026 by omega) (f := bxS S j) rfl 2 (by decide) (by decide) dX1_liesIn_14 ?_
          refine lv_aload_n hx hb dX1_liesIn_15 rfl (lv_at hl 2 rfl) ?_
          refine gf hx hb hown hts hw hT 1 a (show a < 1026 by omega) (ci := 1) rfl rfl (fun _ h => List.mem_cons_of_mem _ (List.mem_append_right _ h)) 0 (by decide) (List.mem_of_getElem? (i := 1) rfl) (v := .ref (g_ad G 2 a)) rfl dX1_liesIn_16 ?_
          refine lv_iconst (v := nI 0) hx hb dX1_liesIn_19 (by decide) ?_
          refine lv_iload_n hx hb dX1_liesIn_20 rfl (lv_at hl 0 rfl) ?_
          refine lv_iadd hx hb dX1_liesIn_21 ?_
          refine top_i (y := nI 2) (by decide) ?_
          refine afl hx hb hw hT 2 a (show a < 1026 by omega) (f := bxS S a) rfl 2 (by decide) (by decide) dX1_liesIn_22 ?_
          refine fc_glt (x := bxS S j 2) (y := bxS S a 2) (tgt := 47) hx hb dX1_liesIn_23 dX1_liesIn_24 (by decide) (fun h8 => ?_) (fun h8 => ?_)
          · skip
            refine lv_iconst (v := nI 0) hx hb dX1_liesIn_47 (by decide) ?_
            refine top_i (y := bI false) (by decide) ?_
            exact ri hx hb hlk hr hw hS (congrArg bI (by simp [liF, h2, h3, h5, h6, h8])) (bI_nar _) (Nat.le_of_ble_eq_true rfl) (Nat.le_of_ble_eq_true rfl) dX1_liesIn_48
          · skip
            refine lv_aload_n hx hb dX1_liesIn_27 rfl (lv_at hl 1 rfl) ?_
            refine gf hx hb hown hts hw hT 1 j (show j < 1026 by omega) (ci := 1) rfl rfl (fun _ h => List.mem_cons_of_mem _ (List.mem_append_right _ h)) 0 (by decide) (List.mem_of_getElem? (i := 1) rfl) (v := .ref (g_ad G 2 j)) rfl dX1_liesIn_28 ?_
            refine lv_iconst (v := nI 3) hx hb dX1_liesIn_31 (by decide) ?_
            refine lv_iload_n hx hb dX1_liesIn_32 rfl (lv_at hl 0 rfl) ?_
            refine lv_iadd hx hb dX1_liesIn_33 ?_
            refine top_i (y := nI 5) (by decide) ?_
            refine afl hx hb hw hT 2 j (show j < 1026 by omega) (f := bxS S j) rfl 5 (by decide) (by decide) dX1_liesIn_34 ?_
            refine lv_aload_n hx hb dX1_liesIn_35 rfl (lv_at hl 2 rfl) ?_
            refine gf hx hb hown hts hw hT 1 a (show a < 1026 by omega) (ci := 1) rfl rfl (fun _ h => List.mem_cons_of_mem _ (List.mem_append_right _ h)) 0 (by decide) (List.mem_of_getElem? (i := 1) rfl) (v := .ref (g_ad G 2 a)) rfl dX1_liesIn_36 ?_
            refine lv_iconst (v := nI 3) hx hb dX1_liesIn_39 (by decide) ?_
            refine lv_iload_n hx hb dX1_liesIn_40 rfl (lv_at hl 0 rfl) ?_
            refine lv_iadd hx hb dX1_liesIn_41 ?_
            refine top_i (y := nI 5) (by decide) ?_
            refine afl hx hb hw hT 2 a (show a < 1026 by omega) (f := bxS S a) rfl 5 (by decide) (by decide) dX1_liesIn_42 ?_
            refine fc_lle (x := bxS S j 5) (y := bxS S a 5) (tgt := 49) hx hb dX1_liesIn_43 dX1_liesIn_44 (by decide) (fun h9 => ?_) (fun h9 => ?_)
            · skip
              refine lv_iinc (v := nI 3) (lv' := [(2, .int (nI 3)), (0, .ref (g_ad G 1 j)), (1, .ref (g_ad G 1 a))]) hx hb dX1_liesIn_49 hl (k := 0) rfl (by decide) (by decide) rfl (fun ls hl => ?_)
              refine lv_goto (tgt := 2) hx hb dX1_liesIn_52 (by decide) ?_
              refine lv_iload_n hx hb dX1_liesIn_2 rfl (lv_at hl 0 rfl) ?_
              refine lv_iconst (v := nI 3) hx hb dX1_liesIn_3 (by decide) ?_
              refine lv_icmp_ge (tgt := 55) hx hb dX1_liesIn_4 (by decide) (fun _ => ?_) (fun q => absurd (by decide) q)
              refine lv_iconst (v := nI 1) hx hb dX1_liesIn_55 (by decide) ?_
              refine top_i (y := bI true) (by decide) ?_
              exact ri hx hb hlk hr hw hS (congrArg bI (by simp [liF, h2, h3, h5, h6, h8, h9])) (bI_nar _) (Nat.le_of_ble_eq_true rfl) (Nat.le_of_ble_eq_true rfl) dX1_liesIn_56
            · skip
              refine lv_iconst (v := nI 0) hx hb dX1_liesIn_47 (by decide) ?_
              refine top_i (y := bI false) (by decide) ?_
              exact ri hx hb hlk hr hw hS (congrArg bI (by simp [liF, h2, h3, h5, h6, h8, h9])) (bI_nar _) (Nat.le_of_ble_eq_true rfl) (Nat.le_of_ble_eq_true rfl) dX1_liesIn_48
        · skip
          refine lv_iconst (v := nI 0) hx hb dX1_liesIn_47 (by decide) ?_
          refine top_i (y := bI false) (by decide) ?_
          exact ri hx hb hlk hr hw hS (congrArg bI (by simp [liF, h2, h3, h5, h6])) (bI_nar _) (Nat.le_of_ble_eq_true rfl) (Nat.le_of_ble_eq_true rfl) dX1_liesIn_48
    · skip
      refine lv_iconst (v := nI 0) hx hb dX1_liesIn_47 (by decide) ?_
      refine top_i (y := bI false) (by decide) ?_
      exact ri hx hb hlk hr hw hS (congrArg bI (by simp [liF, h2, h3])) (bI_nar _) (Nat.le_of_ble_eq_true rfl) (Nat.le_of_ble_eq_true rfl) dX1_liesIn_48
set_option maxRecDepth 100000 in
set_option maxHeartbeats 4000000 in
theorem c_setCorner0 (l : Launch) (G : Gm) (S : St) (j : Nat) (hj : j < 1026) (x y z : UInt32) : Pv l yX1_setCorner wsX1_setCorner ({ frames := 0, cells := 0, slots := 0, locals := 0 } : Room) [.ref (g_ad G 1 j), .int (nI 0), .float x, .float y, .float z] G S (boxU S j (va_up (va_up (va_up (bxS S j) 0 x) 1 y) 2 z)) := by
  refine ent (cc := cX1_setCorner) (maxL := 6) (ret := none) (by decide) rfl (Nat.le_of_ble_eq_true rfl) ?_
  intro p e s m below meth c ls C hw hT hS hl
  obtain ⟨hx, hb, hr, hml, hown, hts, hlk⟩ := C
  have hl : lv_has ls 6 [(0, .ref (g_ad G 1 j)), (1, .int (nI 0)), (2, .float x), (3, .float y), (4, .float z)] := hl
  refine lv_iload_n hx hb dX1_setCorner_0 rfl (lv_at hl 1 rfl) ?_
  refine lv_if_ne (tgt := 8) hx hb dX1_setCorner_1 (by decide) (fun q => absurd (by decide) q) (fun _ => ?_)
  refine lv_iconst (v := nI 0) hx hb dX1_setCorner_4 (by decide) ?_
  refine lv_goto (tgt := 9) hx hb dX1_setCorner_5 (by decide) ?_
  refine lv_istore (lv' := [(5, .int (nI 0)), (0, .ref (g_ad G 1 j)), (1, .int (nI 0)), (2, .float x), (3, .float y), (4, .float z)]) hx hb dX1_setCorner_9 hl (by decide) rfl (fun ls hl => ?_)
  refine lv_aload_n hx hb dX1_setCorner_11 rfl (lv_at hl 1 rfl) ?_
  refine gf hx hb hown hts hw hT 1 j (show j < 1026 by omega) (ci := 1) rfl rfl (fun _ h => List.mem_cons_of_mem _ (List.mem_append_right _ h)) 0 (by decide) (List.mem_of_getElem? (i := 1) rfl) (v := .ref (g_ad G 2 j)) rfl dX1_setCorner_12 ?_
  refine lv_iload hx hb dX1_setCorner_15 (lv_at hl 0 rfl) ?_
  refine lv_fload_n hx hb dX1_setCorner_17 rfl (lv_at hl 3 rfl) ?_
  refine afs (S' := (bxU S (va_up (bxS S) j (va_up (bxS S j) 0 x)))) hx hb hw hT hS 2 j (show j < 1026 by omega) (f := bxS S j) rfl 0 (by decide) (by decide) (mup_bx G S j (va_up (bxS S j) 0 x)) dX1_setCorner_18 (fun H locs hw hS => ?_)
  refine lv_aload_n hx hb dX1_setCorner_19 rfl (lv_at hl 1 rfl) ?_
  refine gf hx hb hown hts hw hT 1 j (show j < 1026 by omega) (ci := 1) rfl rfl (fun _ h => List.mem_cons_of_mem _ (List.mem_append_right _ h)) 0 (by decide) (List.mem_of_getElem? (i := 1) rfl) (v := .ref (g_ad G 2 j)) rfl dX1_setCorner_20 ?_
  refine lv_iload hx hb dX1_setCorner_23 (lv_at hl 0 rfl) ?_
  refine lv_iconst (v := nI 1) hx hb dX1_setCorner_25 (by decide) ?_
  refine lv_iadd hx hb dX1_setCorner_26 ?_
  refine top_i (y := nI 1) (by decide) ?_
  refine lv_fload_n hx hb dX1_setCorner_27 rfl (lv_at hl 4 rfl) ?_
  refine afs (S' := (bxU S (va_up (bxS S) j (va_up (va_up (bxS S j) 0 x) 1 y)))) hx hb hw hT hS 2 j (show j < 1026 by omega) (f := va_up (bxS S j) 0 x) (mup_bx G S j _).1 1 (by decide) (by decide) (mup2_bx G S j _ (va_up (va_up (bxS S j) 0 x) 1 y)) dX1_setCorner_28 (fun H locs hw hS => ?_)
  refine lv_aload_n hx hb dX1_setCorner_29 rfl (lv_at hl 1 rfl) ?_
  refine gf hx hb hown hts hw hT 1 j (show j < 1026 by omega) (ci := 1) rfl rfl (fun _ h => List.mem_cons_of_mem _ (List.mem_append_right _ h)) 0 (by decide) (List.mem_of_getElem? (i := 1) rfl) (v := .ref (g_ad G 2 j)) rfl dX1_setCorner_30 ?_
  refine lv_iload hx hb dX1_setCorner_33 (lv_at hl 0 rfl) ?_
  refine lv_iconst (v := nI 2) hx hb dX1_setCorner_35 (by decide) ?_
  refine lv_iadd hx hb dX1_setCorner_36 ?_
  refine top_i (y := nI 2) (by decide) ?_
  refine lv_fload hx hb dX1_setCorner_37 (lv_at hl 5 rfl) ?_
  refine afs (S' := (bxU S (va_up (bxS S) j (va_up (va_up (va_up (bxS S j) 0 x) 1 y) 2 z)))) hx hb hw hT hS 2 j (show j < 1026 by omega) (f := va_up (va_up (bxS S j) 0 x) 1 y) (mup_bx G S j _).1 2 (by decide) (by decide) (mup2_bx G S j _ (va_up (va_up (va_up (bxS S j) 0 x) 1 y) 2 z)) dX1_setCorner_39 (fun H locs hw hS => ?_)
  exact rv hx hb hlk hr hw hS  (Nat.le_of_ble_eq_true rfl) (Nat.le_of_ble_eq_true rfl) dX1_setCorner_40
set_option maxRecDepth 100000 in
set_option maxHeartbeats 4000000 in
theorem c_setCorner3 (l : Launch) (G : Gm) (S : St) (j : Nat) (hj : j < 1026) (x y z : UInt32) : Pv l yX1_setCorner wsX1_setCorner ({ frames := 0, cells := 0, slots := 0, locals := 0 } : Room) [.ref (g_ad G 1 j), .int (nI 3), .float x, .float y, .float z] G S (boxU S j (va_up (va_up (va_up (bxS S j) 3 x) 4 y) 5 z)) := by
  refine ent (cc := cX1_setCorner) (maxL := 6) (ret := none) (by decide) rfl (Nat.le_of_ble_eq_true rfl) ?_
  intro p e s m below meth c ls C hw hT hS hl
  obtain ⟨hx, hb, hr, hml, hown, hts, hlk⟩ := C
  have hl : lv_has ls 6 [(0, .ref (g_ad G 1 j)), (1, .int (nI 3)), (2, .float x), (3, .float y), (4, .float z)] := hl
  refine lv_iload_n hx hb dX1_setCorner_0 rfl (lv_at hl 1 rfl) ?_
  refine lv_if_ne (tgt := 8) hx hb dX1_setCorner_1 (by decide) (fun _ => ?_) (fun q => absurd q (by decide))
  refine lv_iconst (v := nI 3) hx hb dX1_setCorner_8 (by decide) ?_
  refine lv_istore (lv' := [(5, .int (nI 3)), (0, .ref (g_ad G 1 j)), (1, .int (nI 3)), (2, .float x), (3, .float y), (4, .float z)]) hx hb dX1_setCorner_9 hl (by decide) rfl (fun ls hl => ?_)
  refine lv_aload_n hx hb dX1_setCorner_11 rfl (lv_at hl 1 rfl) ?_
  refine gf hx hb hown hts hw hT 1 j (show j < 1026 by omega) (ci := 1) rfl rfl (fun _ h => List.mem_cons_of_mem _ (List.mem_append_right _ h)) 0 (by decide) (List.mem_of_getElem? (i := 1) rfl) (v := .ref (g_ad G 2 j)) rfl dX1_setCorner_12 ?_
  refine lv_iload hx hb dX1_setCorner_15 (lv_at hl 0 rfl) ?_
  refine lv_fload_n hx hb dX1_setCorner_17 rfl (lv_at hl 3 rfl) ?_
  refine afs (S' := (bxU S (va_up (bxS S) j (va_up (bxS S j) 3 x)))) hx hb hw hT hS 2 j (show j < 1026 by omega) (f := bxS S j) rfl 3 (by decide) (by decide) (mup_bx G S j (va_up (bxS S j) 3 x)) dX1_setCorner_18 (fun H locs hw hS => ?_)
  refine lv_aload_n hx hb dX1_setCorner_19 rfl (lv_at hl 1 rfl) ?_
  refine gf hx hb hown hts hw hT 1 j (show j < 1026 by omega) (ci := 1) rfl rfl (fun _ h => List.mem_cons_of_mem _ (List.mem_append_right _ h)) 0 (by decide) (List.mem_of_getElem? (i := 1) rfl) (v := .ref (g_ad G 2 j)) rfl dX1_setCorner_20 ?_
  refine lv_iload hx hb dX1_setCorner_23 (lv_at hl 0 rfl) ?_
  refine lv_iconst (v := nI 1) hx hb dX1_setCorner_25 (by decide) ?_
  refine lv_iadd hx hb dX1_setCorner_26 ?_
  refine top_i (y := nI 4) (by decide) ?_
  refine lv_fload_n hx hb dX1_setCorner_27 rfl (lv_at hl 4 rfl) ?_
  refine afs (S' := (bxU S (va_up (bxS S) j (va_up (va_up (bxS S j) 3 x) 4 y)))) hx hb hw hT hS 2 j (show j < 1026 by omega) (f := va_up (bxS S j) 3 x) (mup_bx G S j _).1 4 (by decide) (by decide) (mup2_bx G S j _ (va_up (va_up (bxS S j) 3 x) 4 y)) dX1_setCorner_28 (fun H locs hw hS => ?_)
  refine lv_aload_n hx hb dX1_setCorner_29 rfl (lv_at hl 1 rfl) ?_
  refine gf hx hb hown hts hw hT 1 j (show j < 1026 by omega) (ci := 1) rfl rfl (fun _ h => List.mem_cons_of_mem _ (List.mem_append_right _ h)) 0 (by decide) (List.mem_of_getElem? (i := 1) rfl) (v := .ref (g_ad G 2 j)) rfl dX1_setCorner_30 ?_
  refine lv_iload hx hb dX1_setCorner_33 (lv_at hl 0 rfl) ?_
  refine lv_iconst (v := nI 2) hx hb dX1_setCorner_35 (by decide) ?_
  refine lv_iadd hx hb dX1_setCorner_36 ?_
  refine top_i (y := nI 5) (by decide) ?_
  refine lv_fload hx hb dX1_setCorner_37 (lv_at hl 5 rfl) ?_
  refine afs (S' := (bxU S (va_up (bxS S) j (va_up (va_up (va_up (bxS S j) 3 x) 4 y) 5 z)))) hx hb hw hT hS 2 j (show j < 1026 by omega) (f := va_up (va_up (bxS S j) 3 x) 4 y) (mup_bx G S j _).1 5 (by decide) (by decide) (mup2_bx G S j _ (va_up (va_up (va_up (bxS S j) 3 x) 4 y) 5 z)) dX1_setCorner_39 (fun H locs hw hS => ?_)
  exact rv hx hb hlk hr hw hS  (Nat.le_of_ble_eq_true rfl) (Nat.le_of_ble_eq_true rfl) dX1_setCorner_40
set_option maxRecDepth 100000 in
set_option maxHeartbeats 4000000 in
theorem c_copyFrom (l : Launch) (G : Gm) (S : St) (j : Nat) (hj : j < 1026) (a : Nat) (ha : a < 1026) (hne : a ≠ j) : Pv l yX1_copyFrom wsX1_copyFrom ({ frames := 1, cells := 0, slots := 0, locals := 60 } : Room) [.ref (g_ad G 1 j), .ref (g_ad G 1 a)] G S (boxU S j (va_cpy (bxS S a) (bxS S j) 0 0 6)) := by
  refine ent (cc := cX1_copyFrom) (maxL := 2) (ret := none) (by decide) rfl (Nat.le_of_ble_eq_true rfl) ?_
  intro p e s m below meth c ls C hw hT hS hl
  obtain ⟨hx, hb, hr, hml, hown, hts, hlk⟩ := C
  have hl : lv_has ls 2 [(0, .ref (g_ad G 1 j)), (1, .ref (g_ad G 1 a))] := hl
  refine lv_aload_n hx hb dX1_copyFrom_0 rfl (lv_at hl 1 rfl) ?_
  refine gf hx hb hown hts hw hT 1 a (show a < 1026 by omega) (ci := 1) rfl rfl (fun _ h => List.mem_cons_of_mem _ (List.mem_append_right _ h)) 0 (by decide) (List.mem_of_getElem? (i := 1) rfl) (v := .ref (g_ad G 2 a)) rfl dX1_copyFrom_1 ?_
  refine lv_iconst (v := nI 0) hx hb dX1_copyFrom_4 (by decide) ?_
  refine lv_aload_n hx hb dX1_copyFrom_5 rfl (lv_at hl 0 rfl) ?_
  refine gf hx hb hown hts hw hT 1 j (show j < 1026 by omega) (ci := 1) rfl rfl (fun _ h => List.mem_cons_of_mem _ (List.mem_append_right _ h)) 0 (by decide) (List.mem_of_getElem? (i := 1) rfl) (v := .ref (g_ad G 2 j)) rfl dX1_copyFrom_6 ?_
  refine lv_iconst (v := nI 0) hx hb dX1_copyFrom_9 (by decide) ?_
  refine lv_bipush (v := nI 6) hx hb dX1_copyFrom_10 (by decide) ?_
  refine cpF (S' := (bxU S (va_up (bxS S) j (va_cpy (bxS S a) (bxS S j) 0 0 6)))) hx hb hml hown hts (List.mem_of_getElem? (i := 2) rfl) (List.mem_of_getElem? (i := 3) rfl) (List.mem_of_getElem? (i := 4) rfl) (List.mem_of_getElem? (i := 5) rfl) hl.1 hw hT hS a j (show a < 1026 by omega) (show j < 1026 by omega) hne (mup_bx G S j (va_cpy (bxS S a) (bxS S j) 0 0 6)) (Nat.le_of_ble_eq_true rfl) (Nat.le_of_ble_eq_true rfl) dX1_copyFrom_12 (fun H locs hw hS => ?_)
  exact rv hx hb hlk hr hw hS  (Nat.le_of_ble_eq_true rfl) (Nat.le_of_ble_eq_true rfl) dX1_copyFrom_15
set_option maxRecDepth 100000 in
set_option maxHeartbeats 4000000 in
theorem c_moveBy (l : Launch) (G : Gm) (S : St) (j : Nat) (hj : j < 1026) (dx dy dz : UInt32) (hn : mvN (bxS S j) dx dy dz) : Pv l yX1_moveBy wsX1_moveBy ({ frames := 0, cells := 0, slots := 0, locals := 0 } : Room) [.ref (g_ad G 1 j), .float dx, .float dy, .float dz] G S (boxU S j (mvF (bxS S j) dx dy dz)) := by
  refine ent (cc := cX1_moveBy) (maxL := 5) (ret := none) (by decide) rfl (Nat.le_of_ble_eq_true rfl) ?_
  intro p e s m below meth c ls C hw hT hS hl
  obtain ⟨hx, hb, hr, hml, hown, hts, hlk⟩ := C
  have hl : lv_has ls 5 [(0, .ref (g_ad G 1 j)), (1, .float dx), (2, .float dy), (3, .float dz)] := hl
  refine lv_iconst (v := nI 0) hx hb dX1_moveBy_0 (by decide) ?_
  refine lv_istore (lv' := [(4, .int (nI 0)), (0, .ref (g_ad G 1 j)), (1, .float dx), (2, .float dy), (3, .float dz)]) hx hb dX1_moveBy_1 hl (by decide) rfl (fun ls hl => ?_)
  refine lv_iload hx hb dX1_moveBy_3 (lv_at hl 0 rfl) ?_
  refine lv_iconst (v := nI 3) hx hb dX1_moveBy_5 (by decide) ?_
  refine lv_icmp_gt (tgt := 71) hx hb dX1_moveBy_6 (by decide) (fun q => absurd q (by decide)) (fun _ => ?_)
  refine lv_aload_n hx hb dX1_moveBy_9 rfl (lv_at hl 1 rfl) ?_
  refine gf hx hb hown hts hw hT 1 j (show j < 1026 by omega) (ci := 1) rfl rfl (fun _ h => List.mem_cons_of_mem _ (List.mem_append_right _ h)) 0 (by decide) (List.mem_of_getElem? (i := 1) rfl) (v := .ref (g_ad G 2 j)) rfl dX1_moveBy_10 ?_
  refine lv_iload hx hb dX1_moveBy_13 (lv_at hl 0 rfl) ?_
  refine lv_aload_n hx hb dX1_moveBy_15 rfl (lv_at hl 1 rfl) ?_
  refine gf hx hb hown hts hw hT 1 j (show j < 1026 by omega) (ci := 1) rfl rfl (fun _ h => List.mem_cons_of_mem _ (List.mem_append_right _ h)) 0 (by decide) (List.mem_of_getElem? (i := 1) rfl) (v := .ref (g_ad G 2 j)) rfl dX1_moveBy_16 ?_
  refine lv_iload hx hb dX1_moveBy_19 (lv_at hl 0 rfl) ?_
  refine afl hx hb hw hT 2 j (show j < 1026 by omega) (f := bxS S j) rfl 0 (by decide) (by decide) dX1_moveBy_21 ?_
  refine lv_fload_n hx hb dX1_moveBy_22 rfl (lv_at hl 2 rfl) ?_
  refine lv_fadd hx hb dX1_moveBy_23 hn.1 ?_
  refine afs (S' := (bxU S (va_up (bxS S) j (va_up (bxS S j) 0 (FP.fadd (bxS S j 0) dx))))) hx hb hw hT hS 2 j (show j < 1026 by omega) (f := bxS S j) rfl 0 (by decide) (by decide) (mup_bx G S j (va_up (bxS S j) 0 (FP.fadd (bxS S j 0) dx))) dX1_moveBy_24 (fun H locs hw hS => ?_)
  refine lv_aload_n hx hb dX1_moveBy_25 rfl (lv_at hl 1 rfl) ?_
  refine gf hx hb hown hts hw hT 1 j (show j < 1026 by omega) (ci := 1) rfl rfl (fun _ h => List.mem_cons_of_mem _ (List.mem_append_right _ h)) 0 (by decide) (List.mem_of_getElem? (i := 1) rfl) (v := .ref (g_ad G 2 j)) rfl dX1_moveBy_26 ?_
  refine lv_iload hx hb dX1_moveBy_29 (lv_at hl 0 rfl) ?_
  refine lv_iconst (v := nI 1) hx hb dX1_moveBy_31 (by decide) ?_
  refine lv_iadd hx hb dX1_moveBy_32 ?_
  refine top_i (y := nI 1) (by decide) ?_
  refine lv_aload_n hx hb dX1_moveBy_33 rfl (lv_at hl 1 rfl) ?_
  refine gf hx hb hown hts hw hT 1 j (show j < 1026 by omega) (ci := 1) rfl rfl (fun _ h => List.mem_cons_of_mem _ (List.mem_append_right _ h)) 0 (by decide) (List.mem_of_getElem? (i := 1) rfl) (v := .ref (g_ad G 2 j)) rfl dX1_moveBy_34 ?_
  refine lv_iload hx hb dX1_moveBy_37 (lv_at hl 0 rfl) ?_
  refine lv_iconst (v := nI 1) hx hb dX1_moveBy_39 (by decide) ?_
  refine lv_iadd hx hb dX1_moveBy_40 ?_
  refine top_i (y := nI 1) (by decide) ?_
  refine afl hx hb hw hT 2 j (show j < 1026 by omega) (f := va_up (bxS S j) 0 (FP.fadd (bxS S j 0) dx)) (mup_bx G S j _).1 1 (by decide) (by decide) dX1_moveBy_41 ?_
  refine top_f (y := bxS S j 1) rfl ?_
  refine lv_fload_n hx hb dX1_moveBy_42 rfl (lv_at hl 3 rfl) ?_
  refine lv_fadd hx hb dX1_moveBy_43 hn.2.1 ?_
  refine afs (S' := (bxU S (va_up (bxS S) j (va_up (va_up (bxS S j) 0 (FP.fadd (bxS S j 0) dx)) 1 (FP.fadd (bxS S j 1) dy))))) hx hb hw hT hS 2 j (show j < 1026 by omega) (f := va_up (bxS S j) 0 (FP.fadd (bxS S j 0) dx)) (mup_bx G S j _).1 1 (by decide) (by decide) (mup2_bx G S j _ (va_up (va_up (bxS S j) 0 (FP.fadd (bxS S j 0) dx)) 1 (FP.fadd (bxS S j 1) dy))) dX1_moveBy_44 (fun H locs hw hS => ?_)
  refine lv_aload_n hx hb dX1_moveBy_45 rfl (lv_at hl 1 rfl) ?_
  refine gf hx hb hown hts hw hT 1 j (show j < 1026 by omega) (ci := 1) rfl rfl (fun _ h => List.mem_cons_of_mem _ (List.mem_append_right _ h)) 0 (by decide) (List.mem_of_getElem? (i := 1) rfl) (v := .ref (g_ad G 2 j)) rfl dX1_moveBy_46 ?_
  refine lv_iload hx hb dX1_moveBy_49 (lv_at hl 0 rfl) ?_
  refine lv_iconst (v := nI 2) hx hb dX1_moveBy_51 (by decide) ?_
  refine lv_iadd hx hb dX1_moveBy_52 ?_
  refine top_i (y := nI 2) (by decide) ?_
  refine lv_aload_n hx hb dX1_moveBy_53 rfl (lv_at hl 1 rfl) ?_
  refine gf hx hb hown hts hw hT 1 j (show j < 1026 by omega) (ci := 1) rfl rfl (fun _ h => List.mem_cons_of_mem _ (List.mem_append_right _ h)) 0 (by decide) (List.mem_of_getElem? (i := 1) rfl) (v := .ref (g_ad G 2 j)) rfl dX1_moveBy_54 ?_
  refine lv_iload hx hb dX1_moveBy_57 (lv_at hl 0 rfl) ?_
  refine lv_iconst (v := nI 2) hx hb dX1_moveBy_59 (by decide) ?_
  refine lv_iadd hx hb dX1_moveBy_60 ?_
  refine top_i (y := nI 2) (by decide) ?_
  refine afl hx hb hw hT 2 j (show j < 1026 by omega) (f := va_up (va_up (bxS S j) 0 (FP.fadd (bxS S j 0) dx)) 1 (FP.fadd (bxS S j 1) dy)) (mup_bx G S j _).1 2 (by decide) (by decide) dX1_moveBy_61 ?_
  refine top_f (y := bxS S j 2) rfl ?_
  refine lv_fload_n hx hb dX1_moveBy_62 rfl (lv_at hl 4 rfl) ?_
  refine lv_fadd hx hb dX1_moveBy_63 hn.2.2.1 ?_
  refine afs (S' := (bxU S (va_up (bxS S) j (va_up (va_up (va_up (bxS S j) 0 (FP.fadd (bxS S j 0) dx)) 1 (FP.fadd (bxS S j 1) dy)) 2 (FP.fadd (bxS S j 2) dz))))) hx hb hw hT hS 2 j (show j < 1026 by omega) (f := va_up (va_up (bxS S j) 0 (FP.fadd (bxS S j 0) dx)) 1 (FP.fadd (bxS S j 1) dy)) (mup_bx G S j _).1 2 (by decide) (by decide) (mup2_bx G S j _ (va_up (va_up (va_up (bxS S j) 0 (FP.fadd (bxS S j 0) dx)) 1 (FP.fadd (bxS S j 1) dy)) 2 (FP.fadd (bxS S j 2) dz))) dX1_moveBy_64 (fun H locs hw hS => ?_)
  refine lv_iinc (v := nI 3) (lv' := [(4, .int (nI 3)), (0, .ref (g_ad G 1 j)), (1, .float dx), (2, .float dy), (3, .float dz)]) hx hb dX1_moveBy_65 hl (k := 0) rfl (by decide) (by decide) rfl (fun ls hl => ?_)
  refine lv_goto (tgt := 3) hx hb dX1_moveBy_68 (by decide) ?_
  refine lv_iload hx hb dX1_moveBy_3 (lv_at hl 0 rfl) ?_
  refine lv_iconst (v := nI 3) hx hb dX1_moveBy_5 (by decide) ?_
  refine lv_icmp_gt (tgt := 71) hx hb dX1_moveBy_6 (by decide) (fun q => absurd q (by decide)) (fun _ => ?_)
  refine lv_aload_n hx hb dX1_moveBy_9 rfl (lv_at hl 1 rfl) ?_
  refine gf hx hb hown hts hw hT 1 j (show j < 1026 by omega) (ci := 1) rfl rfl (fun _ h => List.mem_cons_of_mem _ (List.mem_append_right _ h)) 0 (by decide) (List.mem_of_getElem? (i := 1) rfl) (v := .ref (g_ad G 2 j)) rfl dX1_moveBy_10 ?_
  refine lv_iload hx hb dX1_moveBy_13 (lv_at hl 0 rfl) ?_
  refine lv_aload_n hx hb dX1_moveBy_15 rfl (lv_at hl 1 rfl) ?_
  refine gf hx hb hown hts hw hT 1 j (show j < 1026 by omega) (ci := 1) rfl rfl (fun _ h => List.mem_cons_of_mem _ (List.mem_append_right _ h)) 0 (by decide) (List.mem_of_getElem? (i := 1) rfl) (v := .ref (g_ad G 2 j)) rfl dX1_moveBy_16 ?_
  refine lv_iload hx hb dX1_moveBy_19 (lv_at hl 0 rfl) ?_
  refine afl hx hb hw hT 2 j (show j < 1026 by omega) (f := va_up (va_up (va_up (bxS S j) 0 (FP.fadd (bxS S j 0) dx)) 1 (FP.fadd (bxS S j 1) dy)) 2 (FP.fadd (bxS S j 2) dz)) (mup_bx G S j _).1 3 (by decide) (by decide) dX1_moveBy_21 ?_
  refine top_f (y := bxS S j 3) rfl ?_
  refine lv_fload_n hx hb dX1_moveBy_22 rfl (lv_at hl 2 rfl) ?_
  refine lv_fadd hx hb dX1_moveBy_23 hn.2.2.2.1 ?_
  refine afs (S' := (bxU S (va_up (bxS S) j (va_up (va_up (va_up (va_up (bxS S j) 0 (FP.fadd (bxS S j 0) dx)) 1 (FP.fadd (bxS S j 1) dy)) 2 (FP.fadd (bxS S j 2) dz)) 3 (FP.fadd (bxS S j 3) dx))))) hx hb hw hT hS 2 j (show j < 1026 by omega) (f := va_up (va_up (va_up (bxS S j) 0 (FP.fadd (bxS S j 0) dx)) 1 (FP.fadd (bxS S j 1) dy)) 2 (FP.fadd (bxS S j 2) dz)) (mup_bx G S j _).1 3 (by decide) (by decide) (mup2_bx G S j _ (va_up (va_up (va_up (va_up (bxS S j) 0 (FP.fadd (bxS S j 0) dx)) 1 (FP.fadd (bxS S j 1) dy)) 2 (FP.fadd (bxS S j 2) dz)) 3 (FP.fadd (bxS S j 3) dx))) dX1_moveBy_24 (fun H locs hw hS => ?_)
  refine lv_aload_n hx hb dX1_moveBy_25 rfl (lv_at hl 1 rfl) ?_
  refine gf hx hb hown hts hw hT 1 j (show j < 1026 by omega) (ci := 1) rfl rfl (fun _ h => List.mem_cons_of_mem _ (List.mem_append_right _ h)) 0 (by decide) (List.mem_of_getElem? (i := 1) rfl) (v := .ref (g_ad G 2 j)) rfl dX1_moveBy_26 ?_
  refine lv_iload hx hb dX1_moveBy_29 (lv_at hl 0 rfl) ?_
  refine lv_iconst (v := nI 1) hx hb dX1_moveBy_31 (by decide) ?_
  refine lv_iadd hx hb dX1_moveBy_32 ?_
  refine top_i (y := nI 4) (by decide) ?_
  refine lv_aload_n hx hb dX1_moveBy_33 rfl (lv_at hl 1 rfl) ?_
  refine gf hx hb hown hts hw hT 1 j (show j < 1026 by omega) (ci := 1) rfl rfl (fun _ h => List.mem_cons_of_mem _ (List.mem_append_right _ h)) 0 (by decide) (List.mem_of_getElem? (i := 1) rfl) (v := .ref (g_ad G 2 j)) rfl dX1_moveBy_34 ?_
  refine lv_iload hx hb dX1_moveBy_37 (lv_at hl 0 rfl) ?_
  refine lv_iconst (v := nI 1) hx hb dX1_moveBy_39 (by decide) ?_
  refine lv_iadd hx hb dX1_moveBy_40 ?_
  refine top_i (y := nI 4) (by decide) ?_
  refine afl hx hb hw hT 2 j (show j < 1026 by omega) (f := va_up (va_up (va_up (va_up (bxS S j) 0 (FP.fadd (bxS S j 0) dx)) 1 (FP.fadd (bxS S j 1) dy)) 2 (FP.fadd (bxS S j 2) dz)) 3 (FP.fadd (bxS S j 3) dx)) (mup_bx G S j _).1 4 (by decide) (by decide) dX1_moveBy_41 ?_
  refine top_f (y := bxS S j 4) rfl ?_
  refine lv_fload_n hx hb dX1_moveBy_42 rfl (lv_at hl 3 rfl) ?_
  refine lv_fadd hx hb dX1_moveBy_43 hn.2.2.2.2.1 ?_
  refine afs (S' := (bxU S (va_up (bxS S) j (va_up (va_up (va_up (va_up (va_up (bxS S j) 0 (FP.fadd (bxS S j 0) dx)) 1 (FP.fadd (bxS S j 1) dy)) 2 (FP.fadd (bxS S j 2) dz)) 3 (FP.fadd (bxS S j 3) dx)) 4 (FP.fadd (bxS S j 4) dy))))) hx hb hw hT hS 2 j (show j < 1026 by omega) (f := va_up (va_up (va_up (va_up (bxS S j) 0 (FP.fadd (bxS S j 0) dx)) 1 (FP.fadd (bxS S j 1) dy)) 2 (FP.fadd (bxS S j 2) dz)) 3 (FP.fadd (bxS S j 3) dx)) (mup_bx G S j _).1 4 (by decide) (by decide) (mup2_bx G S j _ (va_up (va_up (va_up (va_up (va_up (bxS S j) 0 (FP.fadd (bxS S j 0) dx)) 1 (FP.fadd (bxS S j 1) dy)) 2 (FP.fadd (bxS S j 2) dz)) 3 (FP.fadd (bxS S j 3) dx)) 4 (FP.fadd (bxS S j 4) dy))) dX1_moveBy_44 (fun H locs hw hS => ?_)
  refine lv_aload_n hx hb dX1_moveBy_45 rfl (lv_at hl 1 rfl) ?_
  refine gf hx hb hown hts hw hT 1 j (show j < 1026 by omega) (ci := 1) rfl rfl (fun _ h => List.mem_cons_of_mem _ (List.mem_append_right _ h)) 0 (by decide) (List.mem_of_getElem? (i := 1) rfl) (v := .ref (g_ad G 2 j)) rfl dX1_moveBy_46 ?_
  refine lv_iload hx hb dX1_moveBy_49 (lv_at hl 0 rfl) ?_
  refine lv_iconst (v := nI 2) hx hb dX1_moveBy_51 (by decide) ?_
  refine lv_iadd hx hb dX1_moveBy_52 ?_
  refine top_i (y := nI 5) (by decide) ?_
  refine lv_aload_n hx hb dX1_moveBy_53 rfl (lv_at hl 1 rfl) ?_
  refine gf hx hb hown hts hw hT 1 j (show j < 1026 by omega) (ci := 1) rfl rfl (fun _ h => List.mem_cons_of_mem _ (List.mem_append_right _ h)) 0 (by decide) (List.mem_of_getElem? (i := 1) rfl) (v := .ref (g_ad G 2 j)) rfl dX1_moveBy_54 ?_
  refine lv_iload hx hb dX1_moveBy_57 (lv_at hl 0 rfl) ?_
  refine lv_iconst (v := nI 2) hx hb dX1_moveBy_59 (by decide) ?_
  refine lv_iadd hx hb dX1_moveBy_60 ?_
  refine top_i (y := nI 5) (by decide) ?_
  refine afl hx hb hw hT 2 j (show j < 1026 by omega) (f := va_up (va_up (va_up (va_up (va_up (bxS S j) 0 (FP.fadd (bxS S j 0) dx)) 1 (FP.fadd (bxS S j 1) dy)) 2 (FP.fadd (bxS S j 2) dz)) 3 (FP.fadd (bxS S j 3) dx)) 4 (FP.fadd (bxS S j 4) dy)) (mup_bx G S j _).1 5 (by decide) (by decide) dX1_moveBy_61 ?_
  refine top_f (y := bxS S j 5) rfl ?_
  refine lv_fload_n hx hb dX1_moveBy_62 rfl (lv_at hl 4 rfl) ?_
  refine lv_fadd hx hb dX1_moveBy_63 hn.2.2.2.2.2 ?_
  refine afs (S' := (bxU S (va_up (bxS S) j (va_up (va_up (va_up (va_up (va_up (va_up (bxS S j) 0 (FP.fadd (bxS S j 0) dx)) 1 (FP.fadd (bxS S j 1) dy)) 2 (FP.fadd (bxS S j 2) dz)) 3 (FP.fadd (bxS S j 3) dx)) 4 (FP.fadd (bxS S j 4) dy)) 5 (FP.fadd (bxS S j 5) dz))))) hx hb hw hT hS 2 j (show j < 1026 by omega) (f := va_up (va_up (va_up (va_up (va_up (bxS S j) 0 (FP.fadd (bxS S j 0) dx)) 1 (FP.fadd (bxS S j 1) dy)) 2 (FP.fadd (bxS S j 2) dz)) 3 (FP.fadd (bxS S j 3) dx)) 4 (FP.fadd (bxS S j 4) dy)) (mup_bx G S j _).1 5 (by decide) (by decide) (mup2_bx G S j _ (va_up (va_up (va_up (va_up (va_up (va_up (bxS S j) 0 (FP.fadd (bxS S j 0) dx)) 1 (FP.fadd (bxS S j 1) dy)) 2 (FP.fadd (bxS S j 2) dz)) 3 (FP.fadd (bxS S j 3) dx)) 4 (FP.fadd (bxS S j 4) dy)) 5 (FP.fadd (bxS S j 5) dz))) dX1_moveBy_64 (fun H locs hw hS => ?_)
  refine lv_iinc (v := nI 6) (lv' := [(4, .int (nI 6)), (0, .ref (g_ad G 1 j)), (1, .float dx), (2, .float dy), (3, .float dz)]) hx hb dX1_moveBy_65 hl (k := 0) rfl (by decide) (by decide) rfl (fun ls hl => ?_)
  refine lv_goto (tgt := 3) hx hb dX1_moveBy_68 (by decide) ?_
  refine lv_iload hx hb dX1_moveBy_3 (lv_at hl 0 rfl) ?_
  refine lv_iconst (v := nI 3) hx hb dX1_moveBy_5 (by decide) ?_
  refine lv_icmp_gt (tgt := 71) hx hb dX1_moveBy_6 (by decide) (fun _ => ?_) (fun q => absurd (by decide) q)
  exact rv hx hb hlk hr hw hS  (Nat.le_of_ble_eq_true rfl) (Nat.le_of_ble_eq_true rfl) dX1_moveBy_71
set_option maxRecDepth 100000 in
set_option maxHeartbeats 4000000 in
theorem c_widenAxis0 (l : Launch) (G : Gm) (S : St) (j : Nat) (hj : j < 1026) (d : UInt32) (hn : waN (bxS S j) 0 d) : Pv l yX1_widenAxis wsX1_widenAxis ({ frames := 0, cells := 0, slots := 0, locals := 0 } : Room) [.ref (g_ad G 1 j), .int (nI 0), .float d] G S (boxU S j (waF (bxS S j) 0 d)) := by
  refine ent (cc := cX1_widenAxis) (maxL := 5) (ret := none) (by decide) rfl (Nat.le_of_ble_eq_true rfl) ?_
  intro p e s m below meth c ls C hw hT hS hl
  obtain ⟨hx, hb, hr, hml, hown, hts, hlk⟩ := C
  have hl : lv_has ls 5 [(0, .ref (g_ad G 1 j)), (1, .int (nI 0)), (2, .float d)] := hl
  refine lv_aload_n hx hb dX1_widenAxis_0 rfl (lv_at hl 0 rfl) ?_
  refine gf hx hb hown hts hw hT 1 j (show j < 1026 by omega) (ci := 1) rfl rfl (fun _ h => List.mem_cons_of_mem _ (List.mem_append_right _ h)) 0 (by decide) (List.mem_of_getElem? (i := 1) rfl) (v := .ref (g_ad G 2 j)) rfl dX1_widenAxis_1 ?_
  refine lv_iconst (v := nI 0) hx hb dX1_widenAxis_4 (by decide) ?_
  refine lv_iload_n hx hb dX1_widenAxis_5 rfl (lv_at hl 1 rfl) ?_
  refine lv_iadd hx hb dX1_widenAxis_6 ?_
  refine top_i (y := nI 0) (by decide) ?_
  refine afl hx hb hw hT 2 j (show j < 1026 by omega) (f := bxS S j) rfl 0 (by decide) (by decide) dX1_widenAxis_7 ?_
  refine lv_ldcf (v := 1048576000) hx hb hown (hts _ (List.mem_of_getElem? (i := 2) rfl)) dX1_widenAxis_8 ?_
  refine lv_fsub hx hb dX1_widenAxis_10 hn.1 ?_
  refine lv_fstore_n (lv' := [(3, .float (FP.fsub (bxS S j 0) 1048576000)), (0, .ref (g_ad G 1 j)), (1, .int (nI 0)), (2, .float d)]) hx hb dX1_widenAxis_11 rfl hl (by decide) rfl (fun ls hl => ?_)
  refine lv_aload_n hx hb dX1_widenAxis_12 rfl (lv_at hl 1 rfl) ?_
  refine gf hx hb hown hts hw hT 1 j (show j < 1026 by omega) (ci := 1) rfl rfl (fun _ h => List.mem_cons_of_mem _ (List.mem_append_right _ h)) 0 (by decide) (List.mem_of_getElem? (i := 1) rfl) (v := .ref (g_ad G 2 j)) rfl dX1_widenAxis_13 ?_
  refine lv_iconst (v := nI 3) hx hb dX1_widenAxis_16 (by decide) ?_
  refine lv_iload_n hx hb dX1_widenAxis_17 rfl (lv_at hl 2 rfl) ?_
  refine lv_iadd hx hb dX1_widenAxis_18 ?_
  refine top_i (y := nI 3) (by decide) ?_
  refine afl hx hb hw hT 2 j (show j < 1026 by omega) (f := bxS S j) rfl 3 (by decide) (by decide) dX1_widenAxis_19 ?_
  refine lv_ldcf (v := 1048576000) hx hb hown (hts _ (List.mem_of_getElem? (i := 2) rfl)) dX1_widenAxis_20 ?_
  refine lv_fadd hx hb dX1_widenAxis_22 hn.2.1 ?_
  refine lv_fstore (lv' := [(4, .float (FP.fadd (bxS S j 3) 1048576000)), (3, .float (FP.fsub (bxS S j 0) 1048576000)), (0, .ref (g_ad G 1 j)), (1, .int (nI 0)), (2, .float d)]) hx hb dX1_widenAxis_23 hl (by decide) rfl (fun ls hl => ?_)
  refine lv_aload_n hx hb dX1_widenAxis_25 rfl (lv_at hl 2 rfl) ?_
  refine gf hx hb hown hts hw hT 1 j (show j < 1026 by omega) (ci := 1) rfl rfl (fun _ h => List.mem_cons_of_mem _ (List.mem_append_right _ h)) 0 (by decide) (List.mem_of_getElem? (i := 1) rfl) (v := .ref (g_ad G 2 j)) rfl dX1_widenAxis_26 ?_
  refine lv_iconst (v := nI 0) hx hb dX1_widenAxis_29 (by decide) ?_
  refine lv_iload_n hx hb dX1_widenAxis_30 rfl (lv_at hl 3 rfl) ?_
  refine lv_iadd hx hb dX1_widenAxis_31 ?_
  refine top_i (y := nI 0) (by decide) ?_
  refine lv_fload_n hx hb dX1_widenAxis_32 rfl (lv_at hl 4 rfl) ?_
  refine lv_fconst0 hx hb dX1_widenAxis_33 ?_
  refine fc_gge (x := d) (y := FP.fconst0) (tgt := 46) hx hb dX1_widenAxis_34 dX1_widenAxis_35 (by decide) (fun h1 => ?_) (fun h1 => ?_)
  · skip
    refine lv_fload_n hx hb dX1_widenAxis_46 rfl (lv_at hl 1 rfl) ?_
    refine afs (S' := (bxU S (va_up (bxS S) j (va_up (bxS S j) 0 (FP.fsub (bxS S j 0) 1048576000))))) hx hb hw hT hS 2 j (show j < 1026 by omega) (f := bxS S j) rfl 0 (by decide) (by decide) (mup_bx G S j (va_up (bxS S j) 0 (FP.fsub (bxS S j 0) 1048576000))) dX1_widenAxis_47 (fun H locs hw hS => ?_)
    refine lv_aload_n hx hb dX1_widenAxis_48 rfl (lv_at hl 2 rfl) ?_
    refine gf hx hb hown hts hw hT 1 j (show j < 1026 by omega) (ci := 1) rfl rfl (fun _ h => List.mem_cons_of_mem _ (List.mem_append_right _ h)) 0 (by decide) (List.mem_of_getElem? (i := 1) rfl) (v := .ref (g_ad G 2 j)) rfl dX1_widenAxis_49 ?_
    refine lv_iconst (v := nI 3) hx hb dX1_widenAxis_52 (by decide) ?_
    refine lv_iload_n hx hb dX1_widenAxis_53 rfl (lv_at hl 3 rfl) ?_
    refine lv_iadd hx hb dX1_widenAxis_54 ?_
    refine top_i (y := nI 3) (by decide) ?_
    refine lv_fload_n hx hb dX1_widenAxis_55 rfl (lv_at hl 4 rfl) ?_
    refine lv_fconst0 hx hb dX1_widenAxis_56 ?_
    refine fc_gge (x := d) (y := FP.fconst0) (tgt := 66) hx hb dX1_widenAxis_57 dX1_widenAxis_58 (by decide) (fun _ => ?_) (fun q => Bool.noConfusion (h1.symm.trans q))
    refine lv_fload hx hb dX1_widenAxis_66 (lv_at hl 0 rfl) ?_
    refine lv_fload_n hx hb dX1_widenAxis_68 rfl (lv_at hl 4 rfl) ?_
    refine lv_fconst2 hx hb dX1_widenAxis_69 ?_
    refine lv_fmul hx hb dX1_widenAxis_70 hn.2.2.1 ?_
    refine lv_fadd hx hb dX1_widenAxis_71 hn.2.2.2.2 ?_
    refine afs (S' := (bxU S (va_up (bxS S) j (va_up (va_up (bxS S j) 0 (FP.fsub (bxS S j 0) 1048576000)) 3 (FP.fadd (FP.fadd (bxS S j 3) 1048576000) (FP.fmul d FP.fconst2)))))) hx hb hw hT hS 2 j (show j < 1026 by omega) (f := va_up (bxS S j) 0 (FP.fsub (bxS S j 0) 1048576000)) (mup_bx G S j _).1 3 (by decide) (by decide) (mup2_bx G S j _ (va_up (va_up (bxS S j) 0 (FP.fsub (bxS S j 0) 1048576000)) 3 (FP.fadd (FP.fadd (bxS S j 3) 1048576000) (FP.fmul d FP.fconst2)))) dX1_widenAxis_72 (fun H locs hw hS => ?_)
    exact rv hx hb hlk hr (by rw [show waF (bxS S j) 0 d = va_up (va_up (bxS S j) 0 (FP.fsub (bxS S j 0) 1048576000)) 3 (FP.fadd (FP.fadd (bxS S j 3) 1048576000) (FP.fmul d FP.fconst2)) from if_neg (by rw [h1]; decide)]; exact hw) hS  (Nat.le_of_ble_eq_true rfl) (Nat.le_of_ble_eq_true rfl) dX1_widenAxis_73
  · skip
    refine lv_fload_n hx hb dX1_widenAxis_38 rfl (lv_at hl 1 rfl) ?_
    refine lv_fload_n hx hb dX1_widenAxis_39 rfl (lv_at hl 4 rfl) ?_
    refine lv_fconst2 hx hb dX1_widenAxis_40 ?_
    refine lv_fmul hx hb dX1_widenAxis_41 hn.2.2.1 ?_
    refine lv_fadd hx hb dX1_widenAxis_42 hn.2.2.2.1 ?_
    refine lv_goto (tgt := 47) hx hb dX1_widenAxis_43 (by decide) ?_
    refine afs (S' := (bxU S (va_up (bxS S) j (va_up (bxS S j) 0 (FP.fadd (FP.fsub (bxS S j 0) 1048576000) (FP.fmul d FP.fconst2)))))) hx hb hw hT hS 2 j (show j < 1026 by omega) (f := bxS S j) rfl 0 (by decide) (by decide) (mup_bx G S j (va_up (bxS S j) 0 (FP.fadd (FP.fsub (bxS S j 0) 1048576000) (FP.fmul d FP.fconst2)))) dX1_widenAxis_47 (fun H locs hw hS => ?_)
    refine lv_aload_n hx hb dX1_widenAxis_48 rfl (lv_at hl 2 rfl) ?_
    refine gf hx hb hown hts hw hT 1 j (show j < 1026 by omega) (ci := 1) rfl rfl (fun _ h => List.mem_cons_of_mem _ (List.mem_append_right _ h)) 0 (by decide) (List.mem_of_getElem? (i := 1) rfl) (v := .ref (g_ad G 2 j)) rfl dX1_widenAxis_49 ?_
    refine lv_iconst (v := nI 3) hx hb dX1_widenAxis_52 (by decide) ?_
    refine lv_iload_n hx hb dX1_widenAxis_53 rfl (lv_at hl 3 rfl) ?_
    refine lv_iadd hx hb dX1_widenAxis_54 ?_
    refine top_i (y := nI 3) (by decide) ?_
    refine lv_fload_n hx hb dX1_widenAxis_55 rfl (lv_at hl 4 rfl) ?_
    refine lv_fconst0 hx hb dX1_widenAxis_56 ?_
    refine fc_gge (x := d) (y := FP.fconst0) (tgt := 66) hx hb dX1_widenAxis_57 dX1_widenAxis_58 (by decide) (fun q => Bool.noConfusion (h1.symm.trans q)) (fun _ => ?_)
    refine lv_fload hx hb dX1_widenAxis_61 (lv_at hl 0 rfl) ?_
    refine lv_goto (tgt := 72) hx hb dX1_widenAxis_63 (by decide) ?_
    refine afs (S' := (bxU S (va_up (bxS S) j (va_up (va_up (bxS S j) 0 (FP.fadd (FP.fsub (bxS S j 0) 1048576000) (FP.fmul d FP.fconst2))) 3 (FP.fadd (bxS S j 3) 1048576000))))) hx hb hw hT hS 2 j (show j < 1026 by omega) (f := va_up (bxS S j) 0 (FP.fadd (FP.fsub (bxS S j 0) 1048576000) (FP.fmul d FP.fconst2))) (mup_bx G S j _).1 3 (by decide) (by decide) (mup2_bx G S j _ (va_up (va_up (bxS S j) 0 (FP.fadd (FP.fsub (bxS S j 0) 1048576000) (FP.fmul d FP.fconst2))) 3 (FP.fadd (bxS S j 3) 1048576000))) dX1_widenAxis_72 (fun H locs hw hS => ?_)
    exact rv hx hb hlk hr (by rw [show waF (bxS S j) 0 d = va_up (va_up (bxS S j) 0 (FP.fadd (FP.fsub (bxS S j 0) 1048576000) (FP.fmul d FP.fconst2))) 3 (FP.fadd (bxS S j 3) 1048576000) from if_pos h1]; exact hw) hS  (Nat.le_of_ble_eq_true rfl) (Nat.le_of_ble_eq_true rfl) dX1_widenAxis_73
set_option maxRecDepth 100000 in
set_option maxHeartbeats 4000000 in
theorem c_widenAxis1 (l : Launch) (G : Gm) (S : St) (j : Nat) (hj : j < 1026) (d : UInt32) (hn : waN (bxS S j) 1 d) : Pv l yX1_widenAxis wsX1_widenAxis ({ frames := 0, cells := 0, slots := 0, locals := 0 } : Room) [.ref (g_ad G 1 j), .int (nI 1), .float d] G S (boxU S j (waF (bxS S j) 1 d)) := by
  refine ent (cc := cX1_widenAxis) (maxL := 5) (ret := none) (by decide) rfl (Nat.le_of_ble_eq_true rfl) ?_
  intro p e s m below meth c ls C hw hT hS hl
  obtain ⟨hx, hb, hr, hml, hown, hts, hlk⟩ := C
  have hl : lv_has ls 5 [(0, .ref (g_ad G 1 j)), (1, .int (nI 1)), (2, .float d)] := hl
  refine lv_aload_n hx hb dX1_widenAxis_0 rfl (lv_at hl 0 rfl) ?_
  refine gf hx hb hown hts hw hT 1 j (show j < 1026 by omega) (ci := 1) rfl rfl (fun _ h => List.mem_cons_of_mem _ (List.mem_append_right _ h)) 0 (by decide) (List.mem_of_getElem? (i := 1) rfl) (v := .ref (g_ad G 2 j)) rfl dX1_widenAxis_1 ?_
  refine lv_iconst (v := nI 0) hx hb dX1_widenAxis_4 (by decide) ?_
  refine lv_iload_n hx hb dX1_widenAxis_5 rfl (lv_at hl 1 rfl) ?_
  refine lv_iadd hx hb dX1_widenAxis_6 ?_
  refine top_i (y := nI 1) (by decide) ?_
  refine afl hx hb hw hT 2 j (show j < 1026 by omega) (f := bxS S j) rfl 1 (by decide) (by decide) dX1_widenAxis_7 ?_
  refine lv_ldcf (v := 1048576000) hx hb hown (hts _ (List.mem_of_getElem? (i := 2) rfl)) dX1_widenAxis_8 ?_
  refine lv_fsub hx hb dX1_widenAxis_10 hn.1 ?_
  refine lv_fstore_n (lv' := [(3, .float (FP.fsub (bxS S j 1) 1048576000)), (0, .ref (g_ad G 1 j)), (1, .int (nI 1)), (2, .float d)]) hx hb dX1_widenAxis_11 rfl hl (by decide) rfl (fun ls hl => ?_)
  refine lv_aload_n hx hb dX1_widenAxis_12 rfl (lv_at hl 1 rfl) ?_
  refine gf hx hb hown hts hw hT 1 j (show j < 1026 by omega) (ci := 1) rfl rfl (fun _ h => List.mem_cons_of_mem _ (List.mem_append_right _ h)) 0 (by decide) (List.mem_of_getElem? (i := 1) rfl) (v := .ref (g_ad G 2 j)) rfl dX1_widenAxis_13 ?_
  refine lv_iconst (v := nI 3) hx hb dX1_widenAxis_16 (by decide) ?_
  refine lv_iload_n hx hb dX1_widenAxis_17 rfl (lv_at hl 2 rfl) ?_
  refine lv_iadd hx hb dX1_widenAxis_18 ?_
  refine top_i (y := nI 4) (by decide) ?_
  refine afl hx hb hw hT 2 j (show j < 1026 by omega) (f := bxS S j) rfl 4 (by decide) (by decide) dX1_widenAxis_19 ?_
  refine lv_ldcf (v := 1048576000) hx hb hown (hts _ (List.mem_of_getElem? (i := 2) rfl)) dX1_widenAxis_20 ?_
  refine lv_fadd hx hb dX1_widenAxis_22 hn.2.1 ?_
  refine lv_fstore (lv' := [(4, .float (FP.fadd (bxS S j 4) 1048576000)), (3, .float (FP.fsub (bxS S j 1) 1048576000)), (0, .ref (g_ad G 1 j)), (1, .int (nI 1)), (2, .float d)]) hx hb dX1_widenAxis_23 hl (by decide) rfl (fun ls hl => ?_)
  refine lv_aload_n hx hb dX1_widenAxis_25 rfl (lv_at hl 2 rfl) ?_
  refine gf hx hb hown hts hw hT 1 j (show j < 1026 by omega) (ci := 1) rfl rfl (fun _ h => List.mem_cons_of_mem _ (List.mem_append_right _ h)) 0 (by decide) (List.mem_of_getElem? (i := 1) rfl) (v := .ref (g_ad G 2 j)) rfl dX1_widenAxis_26 ?_
  refine lv_iconst (v := nI 0) hx hb dX1_widenAxis_29 (by decide) ?_
  refine lv_iload_n hx hb dX1_widenAxis_30 rfl (lv_at hl 3 rfl) ?_
  refine lv_iadd hx hb dX1_widenAxis_31 ?_
  refine top_i (y := nI 1) (by decide) ?_
  refine lv_fload_n hx hb dX1_widenAxis_32 rfl (lv_at hl 4 rfl) ?_
  refine lv_fconst0 hx hb dX1_widenAxis_33 ?_
  refine fc_gge (x := d) (y := FP.fconst0) (tgt := 46) hx hb dX1_widenAxis_34 dX1_widenAxis_35 (by decide) (fun h1 => ?_) (fun h1 => ?_)
  · skip
    refine lv_fload_n hx hb dX1_widenAxis_46 rfl (lv_at hl 1 rfl) ?_
    refine afs (S' := (bxU S (va_up (bxS S) j (va_up (bxS S j) 1 (FP.fsub (bxS S j 1) 1048576000))))) hx hb hw hT hS 2 j (show j < 1026 by omega) (f := bxS S j) rfl 1 (by decide) (by decide) (mup_bx G S j (va_up (bxS S j) 1 (FP.fsub (bxS S j 1) 1048576000))) dX1_widenAxis_47 (fun H locs hw hS => ?_)
    refine lv_aload_n hx hb dX1_widenAxis_48 rfl (lv_at hl 2 rfl) ?_
    refine gf hx hb hown hts hw hT 1 j (show j < 1026 by omega) (ci := 1) rfl rfl (fun _ h => List.mem_cons_of_mem _ (List.mem_append_right _ h)) 0 (by decide) (List.mem_of_getElem? (i := 1) rfl) (v := .ref (g_ad G 2 j)) rfl dX1_widenAxis_49 ?_
    refine lv_iconst (v := nI 3) hx hb dX1_widenAxis_52 (by decide) ?_
    refine lv_iload_n hx hb dX1_widenAxis_53 rfl (lv_at hl 3 rfl) ?_
    refine lv_iadd hx hb dX1_widenAxis_54 ?_
    refine top_i (y := nI 4) (by decide) ?_
    refine lv_fload_n hx hb dX1_widenAxis_55 rfl (lv_at hl 4 rfl) ?_
    refine lv_fconst0 hx hb dX1_widenAxis_56 ?_
    refine fc_gge (x := d) (y := FP.fconst0) (tgt := 66) hx hb dX1_widenAxis_57 dX1_widenAxis_58 (by decide) (fun _ => ?_) (fun q => Bool.noConfusion (h1.symm.trans q))
    refine lv_fload hx hb dX1_widenAxis_66 (lv_at hl 0 rfl) ?_
    refine lv_fload_n hx hb dX1_widenAxis_68 rfl (lv_at hl 4 rfl) ?_
    refine lv_fconst2 hx hb dX1_widenAxis_69 ?_
    refine lv_fmul hx hb dX1_widenAxis_70 hn.2.2.1 ?_
    refine lv_fadd hx hb dX1_widenAxis_71 hn.2.2.2.2 ?_
    refine afs (S' := (bxU S (va_up (bxS S) j (va_up (va_up (bxS S j) 1 (FP.fsub (bxS S j 1) 1048576000)) 4 (FP.fadd (FP.fadd (bxS S j 4) 1048576000) (FP.fmul d FP.fconst2)))))) hx hb hw hT hS 2 j (show j < 1026 by omega) (f := va_up (bxS S j) 1 (FP.fsub (bxS S j 1) 1048576000)) (mup_bx G S j _).1 4 (by decide) (by decide) (mup2_bx G S j _ (va_up (va_up (bxS S j) 1 (FP.fsub (bxS S j 1) 1048576000)) 4 (FP.fadd (FP.fadd (bxS S j 4) 1048576000) (FP.fmul d FP.fconst2)))) dX1_widenAxis_72 (fun H locs hw hS => ?_)
    exact rv hx hb hlk hr (by rw [show waF (bxS S j) 1 d = va_up (va_up (bxS S j) 1 (FP.fsub (bxS S j 1) 1048576000)) 4 (FP.fadd (FP.fadd (bxS S j 4) 1048576000) (FP.fmul d FP.fconst2)) from if_neg (by rw [h1]; decide)]; exact hw) hS  (Nat.le_of_ble_eq_true rfl) (Nat.le_of_ble_eq_true rfl) dX1_widenAxis_73
  · skip
    refine lv_fload_n hx hb dX1_widenAxis_38 rfl (lv_at hl 1 rfl) ?_
    refine lv_fload_n hx hb dX1_widenAxis_39 rfl (lv_at hl 4 rfl) ?_
    refine lv_fconst2 hx hb dX1_widenAxis_40 ?_
    refine lv_fmul hx hb dX1_widenAxis_41 hn.2.2.1 ?_
    refine lv_fadd hx hb dX1_widenAxis_42 hn.2.2.2.1 ?_
    refine lv_goto (tgt := 47) hx hb dX1_widenAxis_43 (by decide) ?_
    refine afs (S' := (bxU S (va_up (bxS S) j (va_up (bxS S j) 1 (FP.fadd (FP.fsub (bxS S j 1) 1048576000) (FP.fmul d FP.fconst2)))))) hx hb hw hT hS 2 j (show j < 1026 by omega) (f := bxS S j) rfl 1 (by decide) (by decide) (mup_bx G S j (va_up (bxS S j) 1 (FP.fadd (FP.fsub (bxS S j 1) 1048576000) (FP.fmul d FP.fconst2)))) dX1_widenAxis_47 (fun H locs hw hS => ?_)
    refine lv_aload_n hx hb dX1_widenAxis_48 rfl (lv_at hl 2 rfl) ?_
    refine gf hx hb hown hts hw hT 1 j (show j < 1026 by omega) (ci := 1) rfl rfl (fun _ h => List.mem_cons_of_mem _ (List.mem_append_right _ h)) 0 (by decide) (List.mem_of_getElem? (i := 1) rfl) (v := .ref (g_ad G 2 j)) rfl dX1_widenAxis_49 ?_
    refine lv_iconst (v := nI 3) hx hb dX1_widenAxis_52 (by decide) ?_
    refine lv_iload_n hx hb dX1_widenAxis_53 rfl (lv_at hl 3 rfl) ?_
    refine lv_iadd hx hb dX1_widenAxis_54 ?_
    refine top_i (y := nI 4) (by decide) ?_
    refine lv_fload_n hx hb dX1_widenAxis_55 rfl (lv_at hl 4 rfl) ?_
    refine lv_fconst0 hx hb dX1_widenAxis_56 ?_
    refine fc_gge (x := d) (y := FP.fconst0) (tgt := 66) hx hb dX1_widenAxis_57 dX1_widenAxis_58 (by decide) (fun q => Bool.noConfusion (h1.symm.trans q)) (fun _ => ?_)
    refine lv_fload hx hb dX1_widenAxis_61 (lv_at hl 0 rfl) ?_
    refine lv_goto (tgt := 72) hx hb dX1_widenAxis_63 (by decide) ?_
    refine afs (S' := (bxU S (va_up (bxS S) j (va_up (va_up (bxS S j) 1 (FP.fadd (FP.fsub (bxS S j 1) 1048576000) (FP.fmul d FP.fconst2))) 4 (FP.fadd (bxS S j 4) 1048576000))))) hx hb hw hT hS 2 j (show j < 1026 by omega) (f := va_up (bxS S j) 1 (FP.fadd (FP.fsub (bxS S j 1) 1048576000) (FP.fmul d FP.fconst2))) (mup_bx G S j _).1 4 (by decide) (by decide) (mup2_bx G S j _ (va_up (va_up (bxS S j) 1 (FP.fadd (FP.fsub (bxS S j 1) 1048576000) (FP.fmul d FP.fconst2))) 4 (FP.fadd (bxS S j 4) 1048576000))) dX1_widenAxis_72 (fun H locs hw hS => ?_)
    exact rv hx hb hlk hr (by rw [show waF (bxS S j) 1 d = va_up (va_up (bxS S j) 1 (FP.fadd (FP.fsub (bxS S j 1) 1048576000) (FP.fmul d FP.fconst2))) 4 (FP.fadd (bxS S j 4) 1048576000) from if_pos h1]; exact hw) hS  (Nat.le_of_ble_eq_true rfl) (Nat.le_of_ble_eq_true rfl) dX1_widenAxis_73
set_option maxRecDepth 100000 in
set_option maxHeartbeats 4000000 in
theorem c_widenAxis2 (l : Launch) (G : Gm) (S : St) (j : Nat) (hj : j < 1026) (d : UInt32) (hn : waN (bxS S j) 2 d) : Pv l yX1_widenAxis wsX1_widenAxis ({ frames := 0, cells := 0, slots := 0, locals := 0 } : Room) [.ref (g_ad G 1 j), .int (nI 2), .float d] G S (boxU S j (waF (bxS S j) 2 d)) := by
  refine ent (cc := cX1_widenAxis) (maxL := 5) (ret := none) (by decide) rfl (Nat.le_of_ble_eq_true rfl) ?_
  intro p e s m below meth c ls C hw hT hS hl
  obtain ⟨hx, hb, hr, hml, hown, hts, hlk⟩ := C
  have hl : lv_has ls 5 [(0, .ref (g_ad G 1 j)), (1, .int (nI 2)), (2, .float d)] := hl
  refine lv_aload_n hx hb dX1_widenAxis_0 rfl (lv_at hl 0 rfl) ?_
  refine gf hx hb hown hts hw hT 1 j (show j < 1026 by omega) (ci := 1) rfl rfl (fun _ h => List.mem_cons_of_mem _ (List.mem_append_right _ h)) 0 (by decide) (List.mem_of_getElem? (i := 1) rfl) (v := .ref (g_ad G 2 j)) rfl dX1_widenAxis_1 ?_
  refine lv_iconst (v := nI 0) hx hb dX1_widenAxis_4 (by decide) ?_
  refine lv_iload_n hx hb dX1_widenAxis_5 rfl (lv_at hl 1 rfl) ?_
  refine lv_iadd hx hb dX1_widenAxis_6 ?_
  refine top_i (y := nI 2) (by decide) ?_
  refine afl hx hb hw hT 2 j (show j < 1026 by omega) (f := bxS S j) rfl 2 (by decide) (by decide) dX1_widenAxis_7 ?_
  refine lv_ldcf (v := 1048576000) hx hb hown (hts _ (List.mem_of_getElem? (i := 2) rfl)) dX1_widenAxis_8 ?_
  refine lv_fsub hx hb dX1_widenAxis_10 hn.1 ?_
  refine lv_fstore_n (lv' := [(3, .float (FP.fsub (bxS S j 2) 1048576000)), (0, .ref (g_ad G 1 j)), (1, .int (nI 2)), (2, .float d)]) hx hb dX1_widenAxis_11 rfl hl (by decide) rfl (fun ls hl => ?_)
  refine lv_aload_n hx hb dX1_widenAxis_12 rfl (lv_at hl 1 rfl) ?_
  refine gf hx hb hown hts hw hT 1 j (show j < 1026 by omega) (ci := 1) rfl rfl (fun _ h => List.mem_cons_of_mem _ (List.mem_append_right _ h)) 0 (by decide) (List.mem_of_getElem? (i := 1) rfl) (v := .ref (g_ad G 2 j)) rfl dX1_widenAxis_13 ?_
  refine lv_iconst (v := nI 3) hx hb dX1_widenAxis_16 (by decide) ?_
  refine lv_iload_n hx hb dX1_widenAxis_17 rfl (lv_at hl 2 rfl) ?_
  refine lv_iadd hx hb dX1_widenAxis_18 ?_
  refine top_i (y := nI 5) (by decide) ?_
  refine afl hx hb hw hT 2 j (show j < 1026 by omega) (f := bxS S j) rfl 5 (by decide) (by decide) dX1_widenAxis_19 ?_
  refine lv_ldcf (v := 1048576000) hx hb hown (hts _ (List.mem_of_getElem? (i := 2) rfl)) dX1_widenAxis_20 ?_
  refine lv_fadd hx hb dX1_widenAxis_22 hn.2.1 ?_
  refine lv_fstore (lv' := [(4, .float (FP.fadd (bxS S j 5) 1048576000)), (3, .float (FP.fsub (bxS S j 2) 1048576000)), (0, .ref (g_ad G 1 j)), (1, .int (nI 2)), (2, .float d)]) hx hb dX1_widenAxis_23 hl (by decide) rfl (fun ls hl => ?_)
  refine lv_aload_n hx hb dX1_widenAxis_25 rfl (lv_at hl 2 rfl) ?_
  refine gf hx hb hown hts hw hT 1 j (show j < 1026 by omega) (ci := 1) rfl rfl (fun _ h => List.mem_cons_of_mem _ (List.mem_append_right _ h)) 0 (by decide) (List.mem_of_getElem? (i := 1) rfl) (v := .ref (g_ad G 2 j)) rfl dX1_widenAxis_26 ?_
  refine lv_iconst (v := nI 0) hx hb dX1_widenAxis_29 (by decide) ?_
  refine lv_iload_n hx hb dX1_widenAxis_30 rfl (lv_at hl 3 rfl) ?_
  refine lv_iadd hx hb dX1_widenAxis_31 ?_
  refine top_i (y := nI 2) (by decide) ?_
  refine lv_fload_n hx hb dX1_widenAxis_32 rfl (lv_at hl 4 rfl) ?_
  refine lv_fconst0 hx hb dX1_widenAxis_33 ?_
  refine fc_gge (x := d) (y := FP.fconst0) (tgt := 46) hx hb dX1_widenAxis_34 dX1_widenAxis_35 (by decide) (fun h1 => ?_) (fun h1 => ?_)
  · skip
    refine lv_fload_n hx hb dX1_widenAxis_46 rfl (lv_at hl 1 rfl) ?_
    refine afs (S' := (bxU S (va_up (bxS S) j (va_up (bxS S j) 2 (FP.fsub (bxS S j 2) 1048576000))))) hx hb hw hT hS 2 j (show j < 1026 by omega) (f := bxS S j) rfl 2 (by decide) (by decide) (mup_bx G S j (va_up (bxS S j) 2 (FP.fsub (bxS S j 2) 1048576000))) dX1_widenAxis_47 (fun H locs hw hS => ?_)
    refine lv_aload_n hx hb dX1_widenAxis_48 rfl (lv_at hl 2 rfl) ?_
    refine gf hx hb hown hts hw hT 1 j (show j < 1026 by omega) (ci := 1) rfl rfl (fun _ h => List.mem_cons_of_mem _ (List.mem_append_right _ h)) 0 (by decide) (List.mem_of_getElem? (i := 1) rfl) (v := .ref (g_ad G 2 j)) rfl dX1_widenAxis_49 ?_
    refine lv_iconst (v := nI 3) hx hb dX1_widenAxis_52 (by decide) ?_
    refine lv_iload_n hx hb dX1_widenAxis_53 rfl (lv_at hl 3 rfl) ?_
    refine lv_iadd hx hb dX1_widenAxis_54 ?_
    refine top_i (y := nI 5) (by decide) ?_
    refine lv_fload_n hx hb dX1_widenAxis_55 rfl (lv_at hl 4 rfl) ?_
    refine lv_fconst0 hx hb dX1_widenAxis_56 ?_
    refine fc_gge (x := d) (y := FP.fconst0) (tgt := 66) hx hb dX1_widenAxis_57 dX1_widenAxis_58 (by decide) (fun _ => ?_) (fun q => Bool.noConfusion (h1.symm.trans q))
    refine lv_fload hx hb dX1_widenAxis_66 (lv_at hl 0 rfl) ?_
    refine lv_fload_n hx hb dX1_widenAxis_68 rfl (lv_at hl 4 rfl) ?_
    refine lv_fconst2 hx hb dX1_widenAxis_69 ?_
    refine lv_fmul hx hb dX1_widenAxis_70 hn.2.2.1 ?_
    refine lv_fadd hx hb dX1_widenAxis_71 hn.2.2.2.2 ?_
    refine afs (S' := (bxU S (va_up (bxS S) j (va_up (va_up (bxS S j) 2 (FP.fsub (bxS S j 2) 1048576000)) 5 (FP.fadd (FP.fadd (bxS S j 5) 1048576000) (FP.fmul d FP.fconst2)))))) hx hb hw hT hS 2 j (show j < 1026 by omega) (f := va_up (bxS S j) 2 (FP.fsub (bxS S j 2) 1048576000)) (mup_bx G S j _).1 5 (by decide) (by decide) (mup2_bx G S j _ (va_up (va_up (bxS S j) 2 (FP.fsub (bxS S j 2) 1048576000)) 5 (FP.fadd (FP.fadd (bxS S j 5) 1048576000) (FP.fmul d FP.fconst2)))) dX1_widenAxis_72 (fun H locs hw hS => ?_)
    exact rv hx hb hlk hr (by rw [show waF (bxS S j) 2 d = va_up (va_up (bxS S j) 2 (FP.fsub (bxS S j 2) 1048576000)) 5 (FP.fadd (FP.fadd (bxS S j 5) 1048576000) (FP.fmul d FP.fconst2)) from if_neg (by rw [h1]; decide)]; exact hw) hS  (Nat.le_of_ble_eq_true rfl) (Nat.le_of_ble_eq_true rfl) dX1_widenAxis_73
  · skip
    refine lv_fload_n hx hb dX1_widenAxis_38 rfl (lv_at hl 1 rfl) ?_
    refine lv_fload_n hx hb dX1_widenAxis_39 rfl (lv_at hl 4 rfl) ?_
    refine lv_fconst2 hx hb dX1_widenAxis_40 ?_
    refine lv_fmul hx hb dX1_widenAxis_41 hn.2.2.1 ?_
    refine lv_fadd hx hb dX1_widenAxis_42 hn.2.2.2.1 ?_
    refine lv_goto (tgt := 47) hx hb dX1_widenAxis_43 (by decide) ?_
    refine afs (S' := (bxU S (va_up (bxS S) j (va_up (bxS S j) 2 (FP.fadd (FP.fsub (bxS S j 2) 1048576000) (FP.fmul d FP.fconst2)))))) hx hb hw hT hS 2 j (show j < 1026 by omega) (f := bxS S j) rfl 2 (by decide) (by decide) (mup_bx G S j (va_up (bxS S j) 2 (FP.fadd (FP.fsub (bxS S j 2) 1048576000) (FP.fmul d FP.fconst2)))) dX1_widenAxis_47 (fun H locs hw hS => ?_)
    refine lv_aload_n hx hb dX1_widenAxis_48 rfl (lv_at hl 2 rfl) ?_
    refine gf hx hb hown hts hw hT 1 j (show j < 1026 by omega) (ci := 1) rfl rfl (fun _ h => List.mem_cons_of_mem _ (List.mem_append_right _ h)) 0 (by decide) (List.mem_of_getElem? (i := 1) rfl) (v := .ref (g_ad G 2 j)) rfl dX1_widenAxis_49 ?_
    refine lv_iconst (v := nI 3) hx hb dX1_widenAxis_52 (by decide) ?_
    refine lv_iload_n hx hb dX1_widenAxis_53 rfl (lv_at hl 3 rfl) ?_
    refine lv_iadd hx hb dX1_widenAxis_54 ?_
    refine top_i (y := nI 5) (by decide) ?_
    refine lv_fload_n hx hb dX1_widenAxis_55 rfl (lv_at hl 4 rfl) ?_
    refine lv_fconst0 hx hb dX1_widenAxis_56 ?_
    refine fc_gge (x := d) (y := FP.fconst0) (tgt := 66) hx hb dX1_widenAxis_57 dX1_widenAxis_58 (by decide) (fun q => Bool.noConfusion (h1.symm.trans q)) (fun _ => ?_)
    refine lv_fload hx hb dX1_widenAxis_61 (lv_at hl 0 rfl) ?_
    refine lv_goto (tgt := 72) hx hb dX1_widenAxis_63 (by decide) ?_
    refine afs (S' := (bxU S (va_up (bxS S) j (va_up (va_up (bxS S j) 2 (FP.fadd (FP.fsub (bxS S j 2) 1048576000) (FP.fmul d FP.fconst2))) 5 (FP.fadd (bxS S j 5) 1048576000))))) hx hb hw hT hS 2 j (show j < 1026 by omega) (f := va_up (bxS S j) 2 (FP.fadd (FP.fsub (bxS S j 2) 1048576000) (FP.fmul d FP.fconst2))) (mup_bx G S j _).1 5 (by decide) (by decide) (mup2_bx G S j _ (va_up (va_up (bxS S j) 2 (FP.fadd (FP.fsub (bxS S j 2) 1048576000) (FP.fmul d FP.fconst2))) 5 (FP.fadd (bxS S j 5) 1048576000))) dX1_widenAxis_72 (fun H locs hw hS => ?_)
    exact rv hx hb hlk hr (by rw [show waF (bxS S j) 2 d = va_up (va_up (bxS S j) 2 (FP.fadd (FP.fsub (bxS S j 2) 1048576000) (FP.fmul d FP.fconst2))) 5 (FP.fadd (bxS S j 5) 1048576000) from if_pos h1]; exact hw) hS  (Nat.le_of_ble_eq_true rfl) (Nat.le_of_ble_eq_true rfl) dX1_widenAxis_73
set_option maxRecDepth 100000 in
set_option maxHeartbeats 4000000 in
theorem c_widen (l : Launch) (G : Gm) (S : St) (j : Nat) (hj : j < 1026) (dx dy dz : UInt32) (hn : wdN (bxS S j) dx dy dz) : Pv l yX1_widen wsX1_widen ({ frames := 1, cells := 0, slots := 0, locals := 24 } : Room) [.ref (g_ad G 1 j), .float dx, .float dy, .float dz] G S (boxU S j (wdF (bxS S j) dx dy dz)) := by
  refine ent (cc := cX1_widen) (maxL := 4) (ret := none) (by decide) rfl (Nat.le_of_ble_eq_true rfl) ?_
  intro p e s m below meth c ls C hw hT hS hl
  obtain ⟨hx, hb, hr, hml, hown, hts, hlk⟩ := C
  have hl : lv_has ls 4 [(0, .ref (g_ad G 1 j)), (1, .float dx), (2, .float dy), (3, .float dz)] := hl
  refine lv_aload_n hx hb dX1_widen_0 rfl (lv_at hl 0 rfl) ?_
  refine lv_iconst (v := nI 0) hx hb dX1_widen_1 (by decide) ?_
  refine lv_fload_n hx hb dX1_widen_2 rfl (lv_at hl 1 rfl) ?_
  refine cVv ⟨hx, hb, hml, hown, hts⟩ (c_widenAxis0 l G S j (show j < 1026 by omega) dx hn.1) (cwV 2 hts gX1_widen_X1_widenAxis rfl rfl rfl (by decide +kernel) ⟨(Nat.le_of_ble_eq_true rfl), (Nat.le_of_ble_eq_true rfl)⟩) hw hT hS (rcv hw hT 1 j (show j < 1026 by omega) rfl rfl) (As := [.int (nI 0), .float dx]) (rest := []) rfl hl.1 rfl (Nat.le_of_ble_eq_true rfl) dX1_widen_3 ⟨(Nat.le_of_ble_eq_true rfl), (Nat.le_of_ble_eq_true rfl)⟩ (fun H locs hw hS => ?_)
  refine lv_aload_n hx hb dX1_widen_6 rfl (lv_at hl 0 rfl) ?_
  refine lv_iconst (v := nI 1) hx hb dX1_widen_7 (by decide) ?_
  refine lv_fload_n hx hb dX1_widen_8 rfl (lv_at hl 2 rfl) ?_
  refine cVv ⟨hx, hb, hml, hown, hts⟩ (c_widenAxis1 l G (boxU S j (waF (bxS S j) 0 dx)) j (show j < 1026 by omega) dy (by simp only [bx_s]; exact hn.2.1)) (cwV 2 hts gX1_widen_X1_widenAxis rfl rfl rfl (by decide +kernel) ⟨(Nat.le_of_ble_eq_true rfl), (Nat.le_of_ble_eq_true rfl)⟩) hw hT hS (rcv hw hT 1 j (show j < 1026 by omega) rfl rfl) (As := [.int (nI 1), .float dy]) (rest := []) rfl hl.1 rfl (Nat.le_of_ble_eq_true rfl) dX1_widen_9 ⟨(Nat.le_of_ble_eq_true rfl), (Nat.le_of_ble_eq_true rfl)⟩ (fun H locs hw hS => ?_)
  refine lv_aload_n hx hb dX1_widen_12 rfl (lv_at hl 0 rfl) ?_
  refine lv_iconst (v := nI 2) hx hb dX1_widen_13 (by decide) ?_
  refine lv_fload_n hx hb dX1_widen_14 rfl (lv_at hl 3 rfl) ?_
  refine cVv ⟨hx, hb, hml, hown, hts⟩ (c_widenAxis2 l G (boxU (boxU S j (waF (bxS S j) 0 dx)) j (waF (bxS (boxU S j (waF (bxS S j) 0 dx)) j) 1 dy)) j (show j < 1026 by omega) dz (by simp only [bx_s]; exact hn.2.2)) (cwV 2 hts gX1_widen_X1_widenAxis rfl rfl rfl (by decide +kernel) ⟨(Nat.le_of_ble_eq_true rfl), (Nat.le_of_ble_eq_true rfl)⟩) hw hT hS (rcv hw hT 1 j (show j < 1026 by omega) rfl rfl) (As := [.int (nI 2), .float dz]) (rest := []) rfl hl.1 rfl (Nat.le_of_ble_eq_true rfl) dX1_widen_15 ⟨(Nat.le_of_ble_eq_true rfl), (Nat.le_of_ble_eq_true rfl)⟩ (fun H locs hw hS => ?_)
  exact rv hx hb hlk hr (by have q := hw; simp only [bx_s, bx_2] at q; exact q) hS  (Nat.le_of_ble_eq_true rfl) (Nat.le_of_ble_eq_true rfl) dX1_widen_18
def enD (g : Nat → UInt32) (i : Nat) : UInt32 := FP.fsub (g (3 + i)) (g i)
def enA (f g : Nat → UInt32) (i : Nat) : UInt32 := FP.fdiv (FP.fsub (f i) (g i)) (enD g i)
def enB (f g : Nat → UInt32) (i : Nat) : UInt32 := FP.fdiv (FP.fsub (f (3 + i)) (g i)) (enD g i)
/-- where the line g enters the box f: n axes are left, from i on -/
def enG (f g : Nat → UInt32) : Nat → Nat → UInt32 → UInt32 → UInt32
  | 0, _, en, lv => if fGt en lv = true then 3212836864 else en
  | n + 1, i, en, lv => if fEq (enD g i) FP.fconst0 = true then (if fLt (g i) (f i) = true then 3212836864 else if fGt (g i) (f (3 + i)) = true then 3212836864 else enG f g n (i + 1) en lv)
    else enG f g n (i + 1) (if fGt (if fGt (enA f g i) (enB f g i) = true then enB f g i else enA f g i) en = true then (if fGt (enA f g i) (enB f g i) = true then enB f g i else enA f g i) else en) (if fLt (if fGt (enA f g i) (enB f g i) = true then enA f g i else enB f g i) lv = true then (if fGt (enA f g i) (enB f g i) = true then enA f g i else enB f g i) else lv)
def enN (f g : Nat → UInt32) : Prop := ∀ i, i < 3 → vf_n32 (enD g i) ∧ vf_n32 (FP.fsub (f i) (g i)) ∧ vf_n32 (FP.fsub (f (3 + i)) (g i)) ∧ (fEq (enD g i) FP.fconst0 = false → vf_n32 (enA f g i) ∧ vf_n32 (enB f g i))
set_option maxRecDepth 100000 in
set_option maxHeartbeats 4000000 in
theorem c_enterOfLine (l : Launch) (G : Gm) (S : St) (j : Nat) (hj : j < 1026) (a : Nat) (ha : a < 1026) (hn : enN (bxS S j) (bxS S a)) : Pf l yX1_enterOfLine wsX1_enterOfLine ({ frames := 0, cells := 0, slots := 0, locals := 0 } : Room) [.ref (g_ad G 1 j), .ref (g_ad G 1 a)] G S (enG (bxS S j) (bxS S a) 3 0 FP.fconst0 FP.fconst1) S := by
  refine ent (cc := cX1_enterOfLine) (maxL := 11) (ret := (some .float)) (by decide) rfl (Nat.le_of_ble_eq_true rfl) ?_
  intro p e s m below meth c ls C hw hT hS hl
  obtain ⟨hx, hb, hr, hml, hown, hts, hlk⟩ := C
  have hl : lv_has ls 11 [(0, .ref (g_ad G 1 j)), (1, .ref (g_ad G 1 a))] := hl
  refine lv_fconst0 hx hb dX1_enterOfLine_0 ?_
  refine lv_fstore_n (lv' := [(2, .float FP.fconst0), (0, .ref (g_ad G 1 j)), (1, .ref (g_ad G 1 a))]) hx hb dX1_enterOfLine_1 rfl hl (by decide) rfl (fun ls hl => ?_)
  refine lv_fconst1 hx hb dX1_enterOfLine_2 ?_
  refine lv_fstore_n (lv' := [(3, .float FP.fconst1), (2, .float FP.fconst0), (0, .ref (g_ad G 1 j)), (1, .ref (g_ad G 1 a))]) hx hb dX1_enterOfLine_3 rfl hl (by decide) rfl (fun ls hl => ?_)
  refine lv_iconst (v := nI 0) hx hb dX1_enterOfLine_4 (by decide) ?_
  refine lv_istore (lv' := [(4, .int (nI 0)), (3, .float FP.fconst1), (2, .float FP.fconst0), (0, .ref (g_ad G 1 j)), (1, .ref (g_ad G 1 a))]) hx hb dX1_enterOfLine_5 hl (by decide) rfl (fun ls hl => ?_)
  have LOOP : ∀ (n i : Nat) (en : UInt32) (lv : UInt32) (H : Heap) (locs : List Loc) (ls : Array Slot), i + n = 3 → (enG (bxS S j) (bxS S a) n i en lv = enG (bxS S j) (bxS S a) 3 0 FP.fconst0 FP.fconst1) → wdM G S H s → va_S (g_A G) s.heap H locs → lv_has ls 11 [(4, .int (nI i)), (3, .float lv), (2, .float en), (0, .ref (g_ad G 1 j)), (1, .ref (g_ad G 1 a))] → W p l e ({ frames := 0, cells := 0, slots := 0, locals := 0 } : Room) s m ([.ref (g_ad G 1 j), .ref (g_ad G 1 a)] : List Value).toArray below meth c H locs 0 0 (MQ below (Qf G (enG (bxS S j) (bxS S a) 3 0 FP.fconst0 FP.fconst1) S) ([.ref (g_ad G 1 j), .ref (g_ad G 1 a)] : List Value).toArray s ({ frames := 0, cells := 0, slots := 0, locals := 0 } : Room).cells ({ frames := 0, cells := 0, slots := 0, locals := 0 } : Room).slots (g_A G)) (F0 m 7 ls []) := by
    intro n
    induction n with
    | zero =>
      intro i en lv H locs ls hi0 hq hw hS hl
      obtain rfl : i = 3 := by omega
      refine lv_iload hx hb dX1_enterOfLine_7 (lv_at hl 0 rfl) ?_
      refine lv_iconst (v := nI 3) hx hb dX1_enterOfLine_9 (by decide) ?_
      refine lv_icmp_ge (tgt := 180) hx hb dX1_enterOfLine_10 (by decide) (fun _ => ?_) (fun q => absurd (by decide) q)
      refine lv_fload_n hx hb dX1_enterOfLine_180 rfl (lv_at hl 2 rfl) ?_
      refine lv_fload_n hx hb dX1_enterOfLine_181 rfl (lv_at hl 1 rfl) ?_
      refine fc_lle (x := en) (y := lv) (tgt := 191) hx hb dX1_enterOfLine_182 dX1_enterOfLine_183 (by decide) (fun h2 => ?_) (fun h2 => ?_)
      · skip
        refine lv_fload_n hx hb dX1_enterOfLine_191 rfl (lv_at hl 2 rfl) ?_
        exact rf hx hb hlk hr hw hS (by rw [← hq]; simp [enG, enA, enB, enD, h2]) (Nat.le_of_ble_eq_true rfl) (Nat.le_of_ble_eq_true rfl) dX1_enterOfLine_192
      · skip
        refine lv_ldcf (v := 3212836864) hx hb hown (hts _ (List.mem_of_getElem? (i := 2) rfl)) dX1_enterOfLine_186 ?_
        refine lv_goto (tgt := 192) hx hb dX1_enterOfLine_188 (by decide) ?_
        exact rf hx hb hlk hr hw hS (by rw [← hq]; simp [enG, enA, enB, enD, h2]) (Nat.le_of_ble_eq_true rfl) (Nat.le_of_ble_eq_true rfl) dX1_enterOfLine_192
    | succ n ih =>
      intro i en lv H locs ls hi0 hq hw hS hl
      have hi : i < 3 := by omega
      refine lv_iload hx hb dX1_enterOfLine_7 (lv_at hl 0 rfl) ?_
      refine lv_iconst (v := nI 3) hx hb dX1_enterOfLine_9 (by decide) ?_
      refine lv_icmp_ge (tgt := 180) hx hb dX1_enterOfLine_10 (by decide) (fun q => absurd q (nI_ge hi (by decide))) (fun _ => ?_)
      refine lv_aload_n hx hb dX1_enterOfLine_13 rfl (lv_at hl 4 rfl) ?_
      refine gf hx hb hown hts hw hT 1 a (show a < 1026 by omega) (ci := 1) rfl rfl (fun _ h => List.mem_cons_of_mem _ (List.mem_append_right _ h)) 0 (by decide) (List.mem_of_getElem? (i := 1) rfl) (v := .ref (g_ad G 2 a)) rfl dX1_enterOfLine_14 ?_
      refine lv_iconst (v := nI 0) hx hb dX1_enterOfLine_17 (by decide) ?_
      refine lv_iload hx hb dX1_enterOfLine_18 (lv_at hl 0 rfl) ?_
      refine lv_iadd hx hb dX1_enterOfLine_20 ?_
      refine top_i (y := nI i) ((nI_add 0 i).trans (by rw [Nat.zero_add])) ?_
      refine afl hx hb hw hT 2 a (show a < 1026 by omega) (f := bxS S a) rfl i (show i < 6 by omega) (by decide) dX1_enterOfLine_21 ?_
      refine lv_fstore (lv' := [(5, .float (bxS S a i)), (4, .int (nI i)), (3, .float lv), (2, .float en), (0, .ref (g_ad G 1 j)), (1, .ref (g_ad G 1 a))]) hx hb dX1_enterOfLine_22 hl (by decide) rfl (fun ls hl => ?_)
      refine lv_aload_n hx hb dX1_enterOfLine_24 rfl (lv_at hl 5 rfl) ?_
      refine gf hx hb hown hts hw hT 1 a (show a < 1026 by omega) (ci := 1) rfl rfl (fun _ h => List.mem_cons_of_mem _ (List.mem_append_right _ h)) 0 (by decide) (List.mem_of_getElem? (i := 1) rfl) (v := .ref (g_ad G 2 a)) rfl dX1_enterOfLine_25 ?_
      refine lv_iconst (v := nI 3) hx hb dX1_enterOfLine_28 (by decide) ?_
      refine lv_iload hx hb dX1_enterOfLine_29 (lv_at hl 1 rfl) ?_
      refine lv_iadd hx hb dX1_enterOfLine_31 ?_
      refine top_i (y := nI (3 + i)) (nI_add 3 i) ?_
      refine afl hx hb hw hT 2 a (show a < 1026 by omega) (f := bxS S a) rfl (3 + i) (show 3 + i < 6 by omega) (by decide) dX1_enterOfLine_32 ?_
      refine lv_fload hx hb dX1_enterOfLine_33 (lv_at hl 0 rfl) ?_
      refine lv_fsub hx hb dX1_enterOfLine_35 (hn i hi).1 ?_
      refine lv_fstore (lv' := [(6, .float (FP.fsub (bxS S a (3 + i)) (bxS S a i))), (5, .float (bxS S a i)), (4, .int (nI i)), (3, .float lv), (2, .float en), (0, .ref (g_ad G 1 j)), (1, .ref (g_ad G 1 a))]) hx hb dX1_enterOfLine_36 hl (by decide) rfl (fun ls hl => ?_)
      refine lv_fload hx hb dX1_enterOfLine_38 (lv_at hl 0 rfl) ?_
      refine lv_fconst0 hx hb dX1_enterOfLine_40 ?_
      refine fc_lne (x := FP.fsub (bxS S a (3 + i)) (bxS S a i)) (y := FP.fconst0) (tgt := 78) hx hb dX1_enterOfLine_41 dX1_enterOfLine_42 (by decide) (fun h4 => ?_) (fun h4 => ?_)
      · skip
        refine lv_aload_n hx hb dX1_enterOfLine_78 rfl (lv_at hl 5 rfl) ?_
        refine gf hx hb hown hts hw hT 1 j (show j < 1026 by omega) (ci := 1) rfl rfl (fun _ h => List.mem_cons_of_mem _ (List.mem_append_right _ h)) 0 (by decide) (List.mem_of_getElem? (i := 1) rfl) (v := .ref (g_ad G 2 j)) rfl dX1_enterOfLine_79 ?_
        refine lv_iconst (v := nI 0) hx hb dX1_enterOfLine_82 (by decide) ?_
        refine lv_iload hx hb dX1_enterOfLine_83 (lv_at hl 2 rfl) ?_
        refine lv_iadd hx hb dX1_enterOfLine_85 ?_
        refine top_i (y := nI i) ((nI_add 0 i).trans (by rw [Nat.zero_add])) ?_
        refine afl hx hb hw hT 2 j (show j < 1026 by omega) (f := bxS S j) rfl i (show i < 6 by omega) (by decide) dX1_enterOfLine_86 ?_
        refine lv_fload hx hb dX1_enterOfLine_87 (lv_at hl 1 rfl) ?_
        refine lv_fsub hx hb dX1_enterOfLine_89 (hn i hi).2.1 ?_
        refine lv_fload hx hb dX1_enterOfLine_90 (lv_at hl 0 rfl) ?_
        refine lv_fdiv hx hb dX1_enterOfLine_92 ((hn i hi).2.2.2 h4).1 ?_
        refine lv_fstore (lv' := [(7, .float (FP.fdiv (FP.fsub (bxS S j i) (bxS S a i)) (FP.fsub (bxS S a (3 + i)) (bxS S a i)))), (6, .float (FP.fsub (bxS S a (3 + i)) (bxS S a i))), (5, .float (bxS S a i)), (4, .int (nI i)), (3, .float lv), (2, .float en), (0, .ref (g_ad G 1 j)), (1, .ref (g_ad G 1 a))]) hx hb dX1_enterOfLine_93 hl (by decide) rfl (fun ls hl => ?_)
        refine lv_aload_n hx hb dX1_enterOfLine_95 rfl (lv_at hl 6 rfl) ?_
        refine gf hx hb hown hts hw hT 1 j (show j < 1026 by omega) (ci := 1) rfl rfl (fun _ h => List.mem_cons_of_mem _ (List.mem_append_right _ h)) 0 (by decide) (List.mem_of_getElem? (i := 1) rfl) (v := .ref (g_ad G 2 j)) rfl dX1_enterOfLine_96 ?_
        refine lv_iconst (v := nI 3) hx hb dX1_enterOfLine_99 (by decide) ?_
        refine lv_iload hx hb dX1_enterOfLine_100 (lv_at hl 3 rfl) ?_
        refine lv_iadd hx hb dX1_enterOfLine_102 ?_
        refine top_i (y := nI (3 + i)) (nI_add 3 i) ?_
        refine afl hx hb hw hT 2 j (show j < 1026 by omega) (f := bxS S j) rfl (3 + i) (show 3 + i < 6 by omega) (by decide) dX1_enterOfLine_103 ?_
        refine lv_fload hx hb dX1_enterOfLine_104 (lv_at hl 2 rfl) ?_
        refine lv_fsub hx hb dX1_enterOfLine_106 (hn i hi).2.2.1 ?_
        refine lv_fload hx hb dX1_enterOfLine_107 (lv_at hl 1 rfl) ?_
        refine lv_fdiv hx hb dX1_enterOfLine_109 ((hn i hi).2.2.2 h4).2 ?_
        refine lv_fstore (lv' := [(8, .float (FP.fdiv (FP.fsub (bxS S j (3 + i)) (bxS S a i)) (FP.fsub (bxS S a (3 + i)) (bxS S a i)))), (7, .float (FP.fdiv (FP.fsub (bxS S j i) (bxS S a i)) (FP.fsub (bxS S a (3 + i)) (bxS S a i)))), (6, .float (FP.fsub (bxS S a (3 + i)) (bxS S a i))), (5, .float (bxS S a i)), (4, .int (nI i)), (3, .float lv), (2, .float en), (0, .ref (g_ad G 1 j)), (1, .ref (g_ad G 1 a))]) hx hb dX1_enterOfLine_110 hl (by decide) rfl (fun ls hl => ?_)
        refine lv_fload hx hb dX1_enterOfLine_112 (lv_at hl 1 rfl) ?_
        refine lv_fload hx hb dX1_enterOfLine_114 (lv_at hl 0 rfl) ?_
        refine fc_lle (x := FP.fdiv (FP.fsub (bxS S j i) (bxS S a i)) (FP.fsub (bxS S a (3 + i)) (bxS S a i))) (y := FP.fdiv (FP.fsub (bxS S j (3 + i)) (bxS S a i)) (FP.fsub (bxS S a (3 + i)) (bxS S a i))) (tgt := 125) hx hb dX1_enterOfLine_116 dX1_enterOfLine_117 (by decide) (fun h5 => ?_) (fun h5 => ?_)
        · skip
          refine lv_fload hx hb dX1_enterOfLine_125 (lv_at hl 1 rfl) ?_
          refine lv_fstore (lv' := [(9, .float (FP.fdiv (FP.fsub (bxS S j i) (bxS S a i)) (FP.fsub (bxS S a (3 + i)) (bxS S a i)))), (8, .float (FP.fdiv (FP.fsub (bxS S j (3 + i)) (bxS S a i)) (FP.fsub (bxS S a (3 + i)) (bxS S a i)))), (7, .float (FP.fdiv (FP.fsub (bxS S j i) (bxS S a i)) (FP.fsub (bxS S a (3 + i)) (bxS S a i)))), (6, .float (FP.fsub (bxS S a (3 + i)) (bxS S a i))), (5, .float (bxS S a i)), (4, .int (nI i)), (3, .float lv), (2, .float en), (0, .ref (g_ad G 1 j)), (1, .ref (g_ad G 1 a))]) hx hb dX1_enterOfLine_127 hl (by decide) rfl (fun ls hl => ?_)
          refine lv_fload hx hb dX1_enterOfLine_129 (lv_at hl 2 rfl) ?_
          refine lv_fload hx hb dX1_enterOfLine_131 (lv_at hl 1 rfl) ?_
          refine fc_lle (x := FP.fdiv (FP.fsub (bxS S j i) (bxS S a i)) (FP.fsub (bxS S a (3 + i)) (bxS S a i))) (y := FP.fdiv (FP.fsub (bxS S j (3 + i)) (bxS S a i)) (FP.fsub (bxS S a (3 + i)) (bxS S a i))) (tgt := 142) hx hb dX1_enterOfLine_133 dX1_enterOfLine_134 (by decide) (fun _ => ?_) (fun q => Bool.noConfusion (h5.symm.trans q))
          refine lv_fload hx hb dX1_enterOfLine_142 (lv_at hl 1 rfl) ?_
          refine lv_fstore (lv' := [(10, .float (FP.fdiv (FP.fsub (bxS S j (3 + i)) (bxS S a i)) (FP.fsub (bxS S a (3 + i)) (bxS S a i)))), (9, .float (FP.fdiv (FP.fsub (bxS S j i) (bxS S a i)) (FP.fsub (bxS S a (3 + i)) (bxS S a i)))), (8, .float (FP.fdiv (FP.fsub (bxS S j (3 + i)) (bxS S a i)) (FP.fsub (bxS S a (3 + i)) (bxS S a i)))), (7, .float (FP.fdiv (FP.fsub (bxS S j i) (bxS S a i)) (FP.fsub (bxS S a (3 + i)) (bxS S a i)))), (6, .float (FP.fsub (bxS S a (3 + i)) (bxS S a i))), (5, .float (bxS S a i)), (4, .int (nI i)), (3, .float lv), (2, .float en), (0, .ref (g_ad G 1 j)), (1, .ref (g_ad G 1 a))]) hx hb dX1_enterOfLine_144 hl (by decide) rfl (fun ls hl => ?_)
          refine lv_fload hx hb dX1_enterOfLine_146 (lv_at hl 1 rfl) ?_
          refine lv_fload_n hx hb dX1_enterOfLine_148 rfl (lv_at hl 8 rfl) ?_
          refine fc_lle (x := FP.fdiv (FP.fsub (bxS S j i) (bxS S a i)) (FP.fsub (bxS S a (3 + i)) (bxS S a i))) (y := en) (tgt := 158) hx hb dX1_enterOfLine_149 dX1_enterOfLine_150 (by decide) (fun h7 => ?_) (fun h7 => ?_)
          · skip
            refine lv_fload_n hx hb dX1_enterOfLine_158 rfl (lv_at hl 8 rfl) ?_
            refine lv_fstore_n (lv' := [(2, .float en), (10, .float (FP.fdiv (FP.fsub (bxS S j (3 + i)) (bxS S a i)) (FP.fsub (bxS S a (3 + i)) (bxS S a i)))), (9, .float (FP.fdiv (FP.fsub (bxS S j i) (bxS S a i)) (FP.fsub (bxS S a (3 + i)) (bxS S a i)))), (8, .float (FP.fdiv (FP.fsub (bxS S j (3 + i)) (bxS S a i)) (FP.fsub (bxS S a (3 + i)) (bxS S a i)))), (7, .float (FP.fdiv (FP.fsub (bxS S j i) (bxS S a i)) (FP.fsub (bxS S a (3 + i)) (bxS S a i)))), (6, .float (FP.fsub (bxS S a (3 + i)) (bxS S a i))), (5, .float (bxS S a i)), (4, .int (nI i)), (3, .float lv), (0, .ref (g_ad G 1 j)), (1, .ref (g_ad G 1 a))]) hx hb dX1_enterOfLine_159 rfl hl (by decide) rfl (fun ls hl => ?_)
            refine lv_fload hx hb dX1_enterOfLine_160 (lv_at hl 1 rfl) ?_
            refine lv_fload_n hx hb dX1_enterOfLine_162 rfl (lv_at hl 8 rfl) ?_
            refine fc_gge (x := FP.fdiv (FP.fsub (bxS S j (3 + i)) (bxS S a i)) (FP.fsub (bxS S a (3 + i)) (bxS S a i))) (y := lv) (tgt := 172) hx hb dX1_enterOfLine_163 dX1_enterOfLine_164 (by decide) (fun h8 => ?_) (fun h8 => ?_)
            · skip
              refine lv_fload_n hx hb dX1_enterOfLine_172 rfl (lv_at hl 8 rfl) ?_
              refine lv_fstore_n (lv' := [(3, .float lv), (2, .float en), (10, .float (FP.fdiv (FP.fsub (bxS S j (3 + i)) (bxS S a i)) (FP.fsub (bxS S a (3 + i)) (bxS S a i)))), (9, .float (FP.fdiv (FP.fsub (bxS S j i) (bxS S a i)) (FP.fsub (bxS S a (3 + i)) (bxS S a i)))), (8, .float (FP.fdiv (FP.fsub (bxS S j (3 + i)) (bxS S a i)) (FP.fsub (bxS S a (3 + i)) (bxS S a i)))), (7, .float (FP.fdiv (FP.fsub (bxS S j i) (bxS S a i)) (FP.fsub (bxS S a (3 + i)) (bxS S a i)))), (6, .float (FP.fsub (bxS S a (3 + i)) (bxS S a i))), (5, .float (bxS S a i)), (4, .int (nI i)), (0, .ref (g_ad G 1 j)), (1, .ref (g_ad G 1 a))]) hx hb dX1_enterOfLine_173 rfl hl (by decide) rfl (fun ls hl => ?_)
              refine lv_iinc (v := nI (i + 1)) (lv' := [(4, .int (nI (i + 1))), (3, .float lv), (2, .float en), (10, .float (FP.fdiv (FP.fsub (bxS S j (3 + i)) (bxS S a i)) (FP.fsub (bxS S a (3 + i)) (bxS S a i)))), (9, .float (FP.fdiv (FP.fsub (bxS S j i) (bxS S a i)) (FP.fsub (bxS S a (3 + i)) (bxS S a i)))), (8, .float (FP.fdiv (FP.fsub (bxS S j (3 + i)) (bxS S a i)) (FP.fsub (bxS S a (3 + i)) (bxS S a i)))), (7, .float (FP.fdiv (FP.fsub (bxS S j i) (bxS S a i)) (FP.fsub (bxS S a (3 + i)) (bxS S a i)))), (6, .float (FP.fsub (bxS S a (3 + i)) (bxS S a i))), (5, .float (bxS S a i)), (0, .ref (g_ad G 1 j)), (1, .ref (g_ad G 1 a))]) hx hb dX1_enterOfLine_174 hl (k := 8) rfl (nI_add i 1) (by decide) rfl (fun ls hl => ?_)
              refine lv_goto (tgt := 7) hx hb dX1_enterOfLine_177 (by decide) ?_
              exact ih (i + 1) en lv H locs ls (by omega) (by rw [← hq]; simp [enG, enA, enB, enD, h4, h5, h7, h8]) hw hS (lv_sub hl [0, 1, 2, 9, 10] rfl)
            · skip
              refine lv_fload hx hb dX1_enterOfLine_167 (lv_at hl 1 rfl) ?_
              refine lv_goto (tgt := 173) hx hb dX1_enterOfLine_169 (by decide) ?_
              refine lv_fstore_n (lv' := [(3, .float (FP.fdiv (FP.fsub (bxS S j (3 + i)) (bxS S a i)) (FP.fsub (bxS S a (3 + i)) (bxS S a i)))), (2, .float en), (10, .float (FP.fdiv (FP.fsub (bxS S j (3 + i)) (bxS S a i)) (FP.fsub (bxS S a (3 + i)) (bxS S a i)))), (9, .float (FP.fdiv (FP.fsub (bxS S j i) (bxS S a i)) (FP.fsub (bxS S a (3 + i)) (bxS S a i)))), (8, .float (FP.fdiv (FP.fsub (bxS S j (3 + i)) (bxS S a i)) (FP.fsub (bxS S a (3 + i)) (bxS S a i)))), (7, .float (FP.fdiv (FP.fsub (bxS S j i) (bxS S a i)) (FP.fsub (bxS S a (3 + i)) (bxS S a i)))), (6, .float (FP.fsub (bxS S a (3 + i)) (bxS S a i))), (5, .float (bxS S a i)), (4, .int (nI i)), (0, .ref (g_ad G 1 j)), (1, .ref (g_ad G 1 a))]) hx hb dX1_enterOfLine_173 rfl hl (by decide) rfl (fun ls hl => ?_)
              refine lv_iinc (v := nI (i + 1)) (lv' := [(4, .int (nI (i + 1))), (3, .float (FP.fdiv (FP.fsub (bxS S j (3 + i)) (bxS S a i)) (FP.fsub (bxS S a (3 + i)) (bxS S a i)))), (2, .float en), (10, .float (FP.fdiv (FP.fsub (bxS S j (3 + i)) (bxS S a i)) (FP.fsub (bxS S a (3 + i)) (bxS S a i)))), (9, .float (FP.fdiv (FP.fsub (bxS S j i) (bxS S a i)) (FP.fsub (bxS S a (3 + i)) (bxS S a i)))), (8, .float (FP.fdiv (FP.fsub (bxS S j (3 + i)) (bxS S a i)) (FP.fsub (bxS S a (3 + i)) (bxS S a i)))), (7, .float (FP.fdiv (FP.fsub (bxS S j i) (bxS S a i)) (FP.fsub (bxS S a (3 + i)) (bxS S a i)))), (6, .float (FP.fsub (bxS S a (3 + i)) (bxS S a i))), (5, .float (bxS S a i)), (0, .ref (g_ad G 1 j)), (1, .ref (g_ad G 1 a))]) hx hb dX1_enterOfLine_174 hl (k := 8) rfl (nI_add i 1) (by decide) rfl (fun ls hl => ?_)
              refine lv_goto (tgt := 7) hx hb dX1_enterOfLine_177 (by decide) ?_
              exact ih (i + 1) en (FP.fdiv (FP.fsub (bxS S j (3 + i)) (bxS S a i)) (FP.fsub (bxS S a (3 + i)) (bxS S a i))) H locs ls (by omega) (by rw [← hq]; simp [enG, enA, enB, enD, h4, h5, h7, h8]) hw hS (lv_sub hl [0, 1, 2, 9, 10] rfl)
          · skip
            refine lv_fload hx hb dX1_enterOfLine_153 (lv_at hl 1 rfl) ?_
            refine lv_goto (tgt := 159) hx hb dX1_enterOfLine_155 (by decide) ?_
            refine lv_fstore_n (lv' := [(2, .float (FP.fdiv (FP.fsub (bxS S j i) (bxS S a i)) (FP.fsub (bxS S a (3 + i)) (bxS S a i)))), (10, .float (FP.fdiv (FP.fsub (bxS S j (3 + i)) (bxS S a i)) (FP.fsub (bxS S a (3 + i)) (bxS S a i)))), (9, .float (FP.fdiv (FP.fsub (bxS S j i) (bxS S a i)) (FP.fsub (bxS S a (3 + i)) (bxS S a i)))), (8, .float (FP.fdiv (FP.fsub (bxS S j (3 + i)) (bxS S a i)) (FP.fsub (bxS S a (3 + i)) (bxS S a i)))), (7, .float (FP.fdiv (FP.fsub (bxS S j i) (bxS S a i)) (FP.fsub (bxS S a (3 + i)) (bxS S a i)))), (6, .float (FP.fsub (bxS S a (3 + i)) (bxS S a i))), (5, .float (bxS S a i)), (4, .int (nI i)), (3, .float lv), (0, .ref (g_ad G 1 j)), (1, .ref (g_ad G 1 a))]) hx hb dX1_enterOfLine_159 rfl hl (by decide) rfl (fun ls hl => ?_)
            refine lv_fload hx hb dX1_enterOfLine_160 (lv_at hl 1 rfl) ?_
            refine lv_fload_n hx hb dX1_enterOfLine_162 rfl (lv_at hl 8 rfl) ?_
            refine fc_gge (x := FP.fdiv (FP.fsub (bxS S j (3 + i)) (bxS S a i)) (FP.fsub (bxS S a (3 + i)) (bxS S a i))) (y := lv) (tgt := 172) hx hb dX1_enterOfLine_163 dX1_enterOfLine_164 (by decide) (fun h9 => ?_) (fun h9 => ?_)
            · skip
              refine lv_fload_n hx hb dX1_enterOfLine_172 rfl (lv_at hl 8 rfl) ?_
              refine lv_fstore_n (lv' := [(3, .float lv), (2, .float (FP.fdiv (FP.fsub (bxS S j i) (bxS S a i)) (FP.fsub (bxS S a (3 + i)) (bxS S a i)))), (10, .float (FP.fdiv (FP.fsub (bxS S j (3 + i)) (bxS S a i)) (FP.fsub (bxS S a (3 + i)) (bxS S a i)))), (9, .float (FP.fdiv (FP.fsub (bxS S j i) (bxS S a i)) (FP.fsub (bxS S a (3 + i)) (bxS S a i)))), (8, .float (FP.fdiv (FP.fsub (bxS S j (3 + i)) (bxS S a i)) (FP.fsub (bxS S a (3 + i)) (bxS S a i)))), (7, .float (FP.fdiv (FP.fsub (bxS S j i) (bxS S a i)) (FP.fsub (bxS S a (3 + i)) (bxS S a i)))), (6, .float (FP.fsub (bxS S a (3 + i)) (bxS S a i))), (5, .float (bxS S a i)), (4, .int (nI i)), (0, .ref (g_ad G 1 j)), (1, .ref (g_ad G 1 a))]) hx hb dX1_enterOfLine_173 rfl hl (by decide) rfl (fun ls hl => ?_)
              refine lv_iinc (v := nI (i + 1)) (lv' := [(4, .int (nI (i + 1))), (3, .float lv), (2, .float (FP.fdiv (FP.fsub (bxS S j i) (bxS S a i)) (FP.fsub (bxS S a (3 + i)) (bxS S a i)))), (10, .float (FP.fdiv (FP.fsub (bxS S j (3 + i)) (bxS S a i)) (FP.fsub (bxS S a (3 + i)) (bxS S a i)))), (9, .float (FP.fdiv (FP.fsub (bxS S j i) (bxS S a i)) (FP.fsub (bxS S a (3 + i)) (bxS S a i)))), (8, .float (FP.fdiv (FP.fsub (bxS S j (3 + i)) (bxS S a i)) (FP.fsub (bxS S a (3 + i)) (bxS S a i)))), (7, .float (FP.fdiv (FP.fsub (bxS S j i) (bxS S a i)) (FP.fsub (bxS S a (3 + i)) (bxS S a i)))), (6, .float (FP.fsub (bxS S a (3 + i)) (bxS S a i))), (5, .float (bxS S a i)), (0, .ref (g_ad G 1 j)), (1, .ref (g_ad G 1 a))]) hx hb dX1_enterOfLine_174 hl (k := 8) rfl (nI_add i 1) (by decide) rfl (fun ls hl => ?_)
              refine lv_goto (tgt := 7) hx hb dX1_enterOfLine_177 (by decide) ?_
              exact ih (i + 1) (FP.fdiv (FP.fsub (bxS S j i) (bxS S a i)) (FP.fsub (bxS S a (3 + i)) (bxS S a i))) lv H locs ls (by omega) (by rw [← hq]; simp [enG, enA, enB, enD, h4, h5, h7, h9]) hw hS (lv_sub hl [0, 1, 2, 9, 10] rfl)
            · skip
              refine lv_fload hx hb dX1_enterOfLine_167 (lv_at hl 1 rfl) ?_
              refine lv_goto (tgt := 173) hx hb dX1_enterOfLine_169 (by decide) ?_
              refine lv_fstore_n (lv' := [(3, .float (FP.fdiv (FP.fsub (bxS S j (3 + i)) (bxS S a i)) (FP.fsub (bxS S a (3 + i)) (bxS S a i)))), (2, .float (FP.fdiv (FP.fsub (bxS S j i) (bxS S a i)) (FP.fsub (bxS S a (3 + i)) (bxS S a i)))), (10, .float (FP.fdiv (FP.fsub (bxS S j (3 + i)) (bxS S a i)) (FP.fsub (bxS S a (3 + i)) (bxS S a i)))), (9, .float (FP.fdiv (FP.fsub (bxS S j i) (bxS S a i)) (FP.fsub (bxS S a (3 + i)) (bxS S a i)))), (8, .float (FP.fdiv (FP.fsub (bxS S j (3 + i)) (bxS S a i)) (FP.fsub (bxS S a (3 + i)) (bxS S a i)))), (7, .float (FP.fdiv (FP.fsub (bxS S j i) (bxS S a i)) (FP.fsub (bxS S a (3 + i)) (bxS S a i)))), (6, .float (FP.fsub (bxS S a (3 + i)) (bxS S a i))), (5, .float (bxS S a i)), (4, .int (nI i)), (0, .ref (g_ad G 1 j)), (1, .ref (g_ad G 1 a))]) hx hb dX1_enterOfLine_173 rfl hl (by decide) rfl (fun ls hl => ?_)
              refine lv_iinc (v := nI (i + 1)) (lv' := [(4, .int (nI (i + 1))), (3, .float (FP.fdiv (FP.fsub (bxS S j (3 + i)) (bxS S a i)) (FP.fsub (bxS S a (3 + i)) (bxS S a i)))), (2, .float (FP.fdiv (FP.fsub (bxS S j i) (bxS S a i)) (FP.fsub (bxS S a (3 + i)) (bxS S a i)))), (10, .float (FP.fdiv (FP.fsub (bxS S j (3 + i)) (bxS S a i)) (FP.fsub (bxS S a (3 + i)) (bxS S a i)))), (9, .float (FP.fdiv (FP.fsub (bxS S j i) (bxS S a i)) (FP.fsub (bxS S a (3 + i)) (bxS S a i)))), (8, .float (FP.fdiv (FP.fsub (bxS S j (3 + i)) (bxS S a i)) (FP.fsub (bxS S a (3 + i)) (bxS S a i)))), (7, .float (FP.fdiv (FP.fsub (bxS S j i) (bxS S a i)) (FP.fsub (bxS S a (3 + i)) (bxS S a i)))), (6, .float (FP.fsub (bxS S a (3 + i)) (bxS S a i))), (5, .float (bxS S a i)), (0, .ref (g_ad G 1 j)), (1, .ref (g_ad G 1 a))]) hx hb dX1_enterOfLine_174 hl (k := 8) rfl (nI_add i 1) (by decide) rfl (fun ls hl => ?_)
              refine lv_goto (tgt := 7) hx hb dX1_enterOfLine_177 (by decide) ?_
              exact ih (i + 1) (FP.fdiv (FP.fsub (bxS S j i) (bxS S a i)) (FP.fsub (bxS S a (3 + i)) (bxS S a i))) (FP.fdiv (FP.fsub (bxS S j (3 + i)) (bxS S a i)) (FP.fsub (bxS S a (3 + i)) (bxS S a i))) H locs ls (by omega) (by rw [← hq]; simp [enG, enA, enB, enD, h4, h5, h7, h9]) hw hS (lv_sub hl [0, 1, 2, 9, 10] rfl)
        · skip
          refine lv_fload hx hb dX1_enterOfLine_120 (lv_at hl 0 rfl) ?_
          refine lv_goto (tgt := 127) hx hb dX1_enterOfLine_122 (by decide) ?_
          refine lv_fstore (lv' := [(9, .float (FP.fdiv (FP.fsub (bxS S j (3 + i)) (bxS S a i)) (FP.fsub (bxS S a (3 + i)) (bxS S a i)))), (8, .float (FP.fdiv (FP.fsub (bxS S j (3 + i)) (bxS S a i)) (FP.fsub (bxS S a (3 + i)) (bxS S a i)))), (7, .float (FP.fdiv (FP.fsub (bxS S j i) (bxS S a i)) (FP.fsub (bxS S a (3 + i)) (bxS S a i)))), (6, .float (FP.fsub (bxS S a (3 + i)) (bxS S a i))), (5, .float (bxS S a i)), (4, .int (nI i)), (3, .float lv), (2, .float en), (0, .ref (g_ad G 1 j)), (1, .ref (g_ad G 1 a))]) hx hb dX1_enterOfLine_127 hl (by decide) rfl (fun ls hl => ?_)
          refine lv_fload hx hb dX1_enterOfLine_129 (lv_at hl 2 rfl) ?_
          refine lv_fload hx hb dX1_enterOfLine_131 (lv_at hl 1 rfl) ?_
          refine fc_lle (x := FP.fdiv (FP.fsub (bxS S j i) (bxS S a i)) (FP.fsub (bxS S a (3 + i)) (bxS S a i))) (y := FP.fdiv (FP.fsub (bxS S j (3 + i)) (bxS S a i)) (FP.fsub (bxS S a (3 + i)) (bxS S a i))) (tgt := 142) hx hb dX1_enterOfLine_133 dX1_enterOfLine_134 (by decide) (fun q => Bool.noConfusion (h5.symm.trans q)) (fun _ => ?_)
          refine lv_fload hx hb dX1_enterOfLine_137 (lv_at hl 2 rfl) ?_
          refine lv_goto (tgt := 144) hx hb dX1_enterOfLine_139 (by decide) ?_
          refine lv_fstore (lv' := [(10, .float (FP.fdiv (FP.fsub (bxS S j i) (bxS S a i)) (FP.fsub (bxS S a (3 + i)) (bxS S a i)))), (9, .float (FP.fdiv (FP.fsub (bxS S j (3 + i)) (bxS S a i)) (FP.fsub (bxS S a (3 + i)) (bxS S a i)))), (8, .float (FP.fdiv (FP.fsub (bxS S j (3 + i)) (bxS S a i)) (FP.fsub (bxS S a (3 + i)) (bxS S a i)))), (7, .float (FP.fdiv (FP.fsub (bxS S j i) (bxS S a i)) (FP.fsub (bxS S a (3 + i)) (bxS S a i)))), (6, .float (FP.fsub (bxS S a (3 + i)) (bxS S a i))), (5, .float (bxS S a i)), (4, .int (nI i)), (3, .float lv), (2, .float en), (0, .ref (g_ad G 1 j)), (1, .ref (g_ad G 1 a))]) hx hb dX1_enterOfLine_144 hl (by decide) rfl (fun ls hl => ?_)
          refine lv_fload hx hb dX1_enterOfLine_146 (lv_at hl 1 rfl) ?_
          refine lv_fload_n hx hb dX1_enterOfLine_148 rfl (lv_at hl 8 rfl) ?_
          refine fc_lle (x := FP.fdiv (FP.fsub (bxS S j (3 + i)) (bxS S a i)) (FP.fsub (bxS S a (3 + i)) (bxS S a i))) (y := en) (tgt := 158) hx hb dX1_enterOfLine_149 dX1_enterOfLine_150 (by decide) (fun h11 => ?_) (fun h11 => ?_)
          · skip
            refine lv_fload_n hx hb dX1_enterOfLine_158 rfl (lv_at hl 8 rfl) ?_
            refine lv_fstore_n (lv' := [(2, .float en), (10, .float (FP.fdiv (FP.fsub (bxS S j i) (bxS S a i)) (FP.fsub (bxS S a (3 + i)) (bxS S a i)))), (9, .float (FP.fdiv (FP.fsub (bxS S j (3 + i)) (bxS S a i)) (FP.fsub (bxS S a (3 + i)) (bxS S a i)))), (8, .float (FP.fdiv (FP.fsub (bxS S j (3 + i)) (bxS S a i)) (FP.fsub (bxS S a (3 + i)) (bxS S a i)))), (7, .float (FP.fdiv (FP.fsub (bxS S j i) (bxS S a i)) (FP.fsub (bxS S a (3 + i)) (bxS S a i)))), (6, .float (FP.fsub (bxS S a (3 + i)) (bxS S a i))), (5, .float (bxS S a i)), (4, .int (nI i)), (3, .float lv), (0, .ref (g_ad G 1 j)), (1, .ref (g_ad G 1 a))]) hx hb dX1_enterOfLine_159 rfl hl (by decide) rfl (fun ls hl => ?_)
            refine lv_fload hx hb dX1_enterOfLine_160 (lv_at hl 1 rfl) ?_
            refine lv_fload_n hx hb dX1_enterOfLine_162 rfl (lv_at hl 8 rfl) ?_
            refine fc_gge (x := FP.fdiv (FP.fsub (bxS S j i) (bxS S a i)) (FP.fsub (bxS S a (3 + i)) (bxS S a i))) (y := lv) (tgt := 172) hx hb dX1_enterOfLine_163 dX1_enterOfLine_164 (by decide) (fun h12 => ?_) (fun h12 => ?_)
            · skip
              refine lv_fload_n hx hb dX1_enterOfLine_172 rfl (lv_at hl 8 rfl) ?_
              refine lv_fstore_n (lv' := [(3, .float lv), (2, .float en), (10, .float (FP.fdiv (FP.fsub (bxS S j i) (bxS S a i)) (FP.fsub (bxS S a (3 + i)) (bxS S a i)))), (9, .float (FP.fdiv (FP.fsub (bxS S j (3 + i)) (bxS S a i)) (FP.fsub (bxS S a (3 + i)) (bxS S a i)))), (8, .float (FP.fdiv (FP.fsub (bxS S j (3 + i)) (bxS S a i)) (FP.fsub (bxS S a (3 + i)) (bxS S a i)))), (7, .float (FP.fdiv (FP.fsub (bxS S j i) (bxS S a i)) (FP.fsub (bxS S a (3 + i)) (bxS S a i)))), (6, .float (FP.fsub (bxS S a (3 + i)) (bxS S a i))), (5, .float (bxS S a i)), (4, .int (nI i)), (0, .ref (g_ad G 1 j)), (1, .ref (g_ad G 1 a))]) hx hb dX1_enterOfLine_173 rfl hl (by decide) rfl (fun ls hl => ?_)
              refine lv_iinc (v := nI (i + 1)) (lv' := [(4, .int (nI (i + 1))), (3, .float lv), (2, .float en), (10, .float (FP.fdiv (FP.fsub (bxS S j i) (bxS S a i)) (FP.fsub (bxS S a (3 + i)) (bxS S a i)))), (9, .float (FP.fdiv (FP.fsub (bxS S j (3 + i)) (bxS S a i)) (FP.fsub (bxS S a (3 + i)) (bxS S a i)))), (8, .float (FP.fdiv (FP.fsub (bxS S j (3 + i)) (bxS S a i)) (FP.fsub (bxS S a (3 + i)) (bxS S a i)))), (7, .float (FP.fdiv (FP.fsub (bxS S j i) (bxS S a i)) (FP.fsub (bxS S a (3 + i)) (bxS S a i)))), (6, .float (FP.fsub (bxS S a (3 + i)) (bxS S a i))), (5, .float (bxS S a i)), (0, .ref (g_ad G 1 j)), (1, .ref (g_ad G 1 a))]) hx hb dX1_enterOfLine_174 hl (k := 8) rfl (nI_add i 1) (by decide) rfl (fun ls hl => ?_)
              refine lv_goto (tgt := 7) hx hb dX1_enterOfLine_177 (by decide) ?_
              exact ih (i + 1) en lv H locs ls (by omega) (by rw [← hq]; simp [enG, enA, enB, enD, h4, h5, h11, h12]) hw hS (lv_sub hl [0, 1, 2, 9, 10] rfl)
            · skip
              refine lv_fload hx hb dX1_enterOfLine_167 (lv_at hl 1 rfl) ?_
              refine lv_goto (tgt := 173) hx hb dX1_enterOfLine_169 (by decide) ?_
              refine lv_fstore_n (lv' := [(3, .float (FP.fdiv (FP.fsub (bxS S j i) (bxS S a i)) (FP.fsub (bxS S a (3 + i)) (bxS S a i)))), (2, .float en), (10, .float (FP.fdiv (FP.fsub (bxS S j i) (bxS S a i)) (FP.fsub (bxS S a (3 + i)) (bxS S a i)))), (9, .float (FP.fdiv (FP.fsub (bxS S j (3 + i)) (bxS S a i)) (FP.fsub (bxS S a (3 + i)) (bxS S a i)))), (8, .float (FP.fdiv (FP.fsub (bxS S j (3 + i)) (bxS S a i)) (FP.fsub (bxS S a (3 + i)) (bxS S a i)))), (7, .float (FP.fdiv (FP.fsub (bxS S j i) (bxS S a i)) (FP.fsub (bxS S a (3 + i)) (bxS S a i)))), (6, .float (FP.fsub (bxS S a (3 + i)) (bxS S a i))), (5, .float (bxS S a i)), (4, .int (nI i)), (0, .ref (g_ad G 1 j)), (1, .ref (g_ad G 1 a))]) hx hb dX1_enterOfLine_173 rfl hl (by decide) rfl (fun ls hl => ?_)
              refine lv_iinc (v := nI (i + 1)) (lv' := [(4, .int (nI (i + 1))), (3, .float (FP.fdiv (FP.fsub (bxS S j i) (bxS S a i)) (FP.fsub (bxS S a (3 + i)) (bxS S a i)))), (2, .float en), (10, .float (FP.fdiv (FP.fsub (bxS S j i) (bxS S a i)) (FP.fsub (bxS S a (3 + i)) (bxS S a i)))), (9, .float (FP.fdiv (FP.fsub (bxS S j (3 + i)) (bxS S a i)) (FP.fsub (bxS S a (3 + i)) (bxS S a i)))), (8, .float (FP.fdiv (FP.fsub (bxS S j (3 + i)) (bxS S a i)) (FP.fsub (bxS S a (3 + i)) (bxS S a i)))), (7, .float (FP.fdiv (FP.fsub (bxS S j i) (bxS S a i)) (FP.fsub (bxS S a (3 + i)) (bxS S a i)))), (6, .float (FP.fsub (bxS S a (3 + i)) (bxS S a i))), (5, .float (bxS S a i)), (0, .ref (g_ad G 1 j)), (1, .ref (g_ad G 1 a))]) hx hb dX1_enterOfLine_174 hl (k := 8) rfl (nI_add i 1) (by decide) rfl (fun ls hl => ?_)
              refine lv_goto (tgt := 7) hx hb dX1_enterOfLine_177 (by decide) ?_
              exact ih (i + 1) en (FP.fdiv (FP.fsub (bxS S j i) (bxS S a i)) (FP.fsub (bxS S a (3 + i)) (bxS S a i))) H locs ls (by omega) (by rw [← hq]; simp [enG, enA, enB, enD, h4, h5, h11, h12]) hw hS (lv_sub hl [0, 1, 2, 9, 10] rfl)
          · skip
            refine lv_fload hx hb dX1_enterOfLine_153 (lv_at hl 1 rfl) ?_
            refine lv_goto (tgt := 159) hx hb dX1_enterOfLine_155 (by decide) ?_
            refine lv_fstore_n (lv' := [(2, .float (FP.fdiv (FP.fsub (bxS S j (3 + i)) (bxS S a i)) (FP.fsub (bxS S a (3 + i)) (bxS S a i)))), (10, .float (FP.fdiv (FP.fsub (bxS S j i) (bxS S a i)) (FP.fsub (bxS S a (3 + i)) (bxS S a i)))), (9, .float (FP.fdiv (FP.fsub (bxS S j (3 + i)) (bxS S a i)) (FP.fsub (bxS S a (3 + i)) (bxS S a i)))), (8, .float (FP.fdiv (FP.fsub (bxS S j (3 + i)) (bxS S a i)) (FP.fsub (bxS S a (3 + i)) (bxS S a i)))), (7, .float (FP.fdiv (FP.fsub (bxS S j i) (bxS S a i)) (FP.fsub (bxS S a (3 + i)) (bxS S a i)))), (6, .float (FP.fsub (bxS S a (3 + i)) (bxS S a i))), (5, .float (bxS S a i)), (4, .int (nI i)), (3, .float lv), (0, .ref (g_ad G 1 j)), (1, .ref (g_ad G 1 a))]) hx hb dX1_enterOfLine_159 rfl hl (by decide) rfl (fun ls hl => ?_)
            refine lv_fload hx hb dX1_enterOfLine_160 (lv_at hl 1 rfl) ?_
            refine lv_fload_n hx hb dX1_enterOfLine_162 rfl (lv_at hl 8 rfl) ?_
            refine fc_gge (x := FP.fdiv (FP.fsub (bxS S j i) (bxS S a i)) (FP.fsub (bxS S a (3 + i)) (bxS S a i))) (y := lv) (tgt := 172) hx hb dX1_enterOfLine_163 dX1_enterOfLine_164 (by decide) (fun h13 => ?_) (fun h13 => ?_)
            · skip
              refine lv_fload_n hx hb dX1_enterOfLine_172 rfl (lv_at hl 8 rfl) ?_
              refine lv_fstore_n (lv' := [(3, .float lv), (2, .float (FP.fdiv (FP.fsub (bxS S j (3 + i)) (bxS S a i)) (FP.fsub (bxS S a (3 + i)) (bxS S a i)))), (10, .float (FP.fdiv (FP.fsub (bxS S j i) (bxS S a i)) (FP.fsub (bxS S a (3 + i)) (bxS S a i)))), (9, .float (FP.fdiv (FP.fsub (bxS S j (3 + i)) (bxS S a i)) (FP.fsub (bxS S a (3 + i)) (bxS S a i)))), (8, .float (FP.fdiv (FP.fsub (bxS S j (3 + i)) (bxS S a i)) (FP.fsub (bxS S a (3 + i)) (bxS S a i)))), (7, .float (FP.fdiv (FP.fsub (bxS S j i) (bxS S a i)) (FP.fsub (bxS S a (3 + i)) (bxS S a i)))), (6, .float (FP.fsub (bxS S a (3 + i)) (bxS S a i))), (5, .float (bxS S a i)), (4, .int (nI i)), (0, .ref (g_ad G 1 j)), (1, .ref (g_ad G 1 a))]) hx hb dX1_enterOfLine_173 rfl hl (by decide) rfl (fun ls hl => ?_)
              refine lv_iinc (v := nI (i + 1)) (lv' := [(4, .int (nI (i + 1))), (3, .float lv), (2, .float (FP.fdiv (FP.fsub (bxS S j (3 + i)) (bxS S a i)) (FP.fsub (bxS S a (3 + i)) (bxS S a i)))), (10, .float (FP.fdiv (FP.fsub (bxS S j i) (bxS S a i)) (FP.fsub (bxS S a (3 + i)) (bxS S a i)))), (9, .float (FP.fdiv (FP.fsub (bxS S j (3 + i)) (bxS S a i)) (FP.fsub (bxS S a (3 + i)) (bxS S a i)))), (8, .float (FP.fdiv (FP.fsub (bxS S j (3 + i)) (bxS S a i)) (FP.fsub (bxS S a (3 + i)) (bxS S a i)))), (7, .float (FP.fdiv (FP.fsub (bxS S j i) (bxS S a i)) (FP.fsub (bxS S a (3 + i)) (bxS S a i)))), (6, .float (FP.fsub (bxS S a (3 + i)) (bxS S a i))), (5, .float (bxS S a i)), (0, .ref (g_ad G 1 j)), (1, .ref (g_ad G 1 a))]) hx hb dX1_enterOfLine_174 hl (k := 8) rfl (nI_add i 1) (by decide) rfl (fun ls hl => ?_)
              refine lv_goto (tgt := 7) hx hb dX1_enterOfLine_177 (by decide) ?_
              exact ih (i + 1) (FP.fdiv (FP.fsub (bxS S j (3 + i)) (bxS S a i)) (FP.fsub (bxS S a (3 + i)) (bxS S a i))) lv H locs ls (by omega) (by rw [← hq]; simp [enG, enA, enB, enD, h4, h5, h11, h13]) hw hS (lv_sub hl [0, 1, 2, 9, 10] rfl)
            · skip
              refine lv_fload hx hb dX1_enterOfLine_167 (lv_at hl 1 rfl) ?_
              refine lv_goto (tgt := 173) hx hb dX1_enterOfLine_169 (by decide) ?_
              refine lv_fstore_n (lv' := [(3, .float (FP.fdiv (FP.fsub (bxS S j i) (bxS S a i)) (FP.fsub (bxS S a (3 + i)) (bxS S a i)))), (2, .float (FP.fdiv (FP.fsub (bxS S j (3 + i)) (bxS S a i)) (FP.fsub (bxS S a (3 + i)) (bxS S a i)))), (10, .float (FP.fdiv (FP.fsub (bxS S j i) (bxS S a i)) (FP.fsub (bxS S a (3 + i)) (bxS S a i)))), (9, .float (FP.fdiv (FP.fsub (bxS S j (3 + i)) (bxS S a i)) (FP.fsub (bxS S a (3 + i)) (bxS S a i)))), (8, .float (FP.fdiv (FP.fsub (bxS S j (3 + i)) (bxS S a i)) (FP.fsub (bxS S a (3 + i)) (bxS S a i)))), (7, .float (FP.fdiv (FP.fsub (bxS S j i) (bxS S a i)) (FP.fsub (bxS S a (3 + i)) (bxS S a i)))), (6, .float (FP.fsub (bxS S a (3 + i)) (bxS S a i))), (5, .float (bxS S a i)), (4, .int (nI i)), (0, .ref (g_ad G 1 j)), (1, .ref (g_ad G 1 a))]) hx hb dX1_enterOfLine_173 rfl hl (by decide) rfl (fun ls hl => ?_)
              refine lv_iinc (v := nI (i + 1)) (lv' := [(4, .int (nI (i + 1))), (3, .float (FP.fdiv (FP.fsub (bxS S j i) (bxS S a i)) (FP.fsub (bxS S a (3 + i)) (bxS S a i)))), (2, .float (FP.fdiv (FP.fsub (bxS S j (3 + i)) (bxS S a i)) (FP.fsub (bxS S a (3 + i)) (bxS S a i)))), (10, .float (FP.fdiv (FP.fsub (bxS S j i) (bxS S a i)) (FP.fsub (bxS S a (3 + i)) (bxS S a i)))), (9, .float (FP.fdiv (FP.fsub (bxS S j (3 + i)) (bxS S a i)) (FP.fsub (bxS S a (3 + i)) (bxS S a i)))), (8, .float (FP.fdiv (FP.fsub (bxS S j (3 + i)) (bxS S a i)) (FP.fsub (bxS S a (3 + i)) (bxS S a i)))), (7, .float (FP.fdiv (FP.fsub (bxS S j i) (bxS S a i)) (FP.fsub (bxS S a (3 + i)) (bxS S a i)))), (6, .float (FP.fsub (bxS S a (3 + i)) (bxS S a i))), (5, .float (bxS S a i)), (0, .ref (g_ad G 1 j)), (1, .ref (g_ad G 1 a))]) hx hb dX1_enterOfLine_174 hl (k := 8) rfl (nI_add i 1) (by decide) rfl (fun ls hl => ?_)
              refine lv_goto (tgt := 7) hx hb dX1_enterOfLine_177 (by decide) ?_
              exact ih (i + 1) (FP.fdiv (FP.fsub (bxS S j (3 + i)) (bxS S a i)) (FP.fsub (bxS S a (3 + i)) (bxS S a i))) (FP.fdiv (FP.fsub (bxS S j i) (bxS S a i)) (FP.fsub (bxS S a (3 + i)) (bxS S a i))) H locs ls (by omega) (by rw [← hq]; simp [enG, enA, enB, enD, h4, h5, h11, h13]) hw hS (lv_sub hl [0, 1, 2, 9, 10] rfl)
      · skip
        refine lv_fload hx hb dX1_enterOfLine_45 (lv_at hl 1 rfl) ?_
        refine lv_aload_n hx hb dX1_enterOfLine_47 rfl (lv_at hl 5 rfl) ?_
        refine gf hx hb hown hts hw hT 1 j (show j < 1026 by omega) (ci := 1) rfl rfl (fun _ h => List.mem_cons_of_mem _ (List.mem_append_right _ h)) 0 (by decide) (List.mem_of_getElem? (i := 1) rfl) (v := .ref (g_ad G 2 j)) rfl dX1_enterOfLine_48 ?_
        refine lv_iconst (v := nI 0) hx hb dX1_enterOfLine_51 (by decide) ?_
        refine lv_iload hx hb dX1_enterOfLine_52 (lv_at hl 2 rfl) ?_
        refine lv_iadd hx hb dX1_enterOfLine_54 ?_
        refine top_i (y := nI i) ((nI_add 0 i).trans (by rw [Nat.zero_add])) ?_
        refine afl hx hb hw hT 2 j (show j < 1026 by omega) (f := bxS S j) rfl i (show i < 6 by omega) (by decide) dX1_enterOfLine_55 ?_
        refine fc_glt (x := bxS S a i) (y := bxS S j i) (tgt := 75) hx hb dX1_enterOfLine_56 dX1_enterOfLine_57 (by decide) (fun h14 => ?_) (fun h14 => ?_)
        · skip
          refine lv_ldcf (v := 3212836864) hx hb hown (hts _ (List.mem_of_getElem? (i := 2) rfl)) dX1_enterOfLine_75 ?_
          exact rf hx hb hlk hr hw hS (by rw [← hq]; simp [enG, enA, enB, enD, h4, h14]) (Nat.le_of_ble_eq_true rfl) (Nat.le_of_ble_eq_true rfl) dX1_enterOfLine_77
        · skip
          refine lv_fload hx hb dX1_enterOfLine_60 (lv_at hl 1 rfl) ?_
          refine lv_aload_n hx hb dX1_enterOfLine_62 rfl (lv_at hl 5 rfl) ?_
          refine gf hx hb hown hts hw hT 1 j (show j < 1026 by omega) (ci := 1) rfl rfl (fun _ h => List.mem_cons_of_mem _ (List.mem_append_right _ h)) 0 (by decide) (List.mem_of_getElem? (i := 1) rfl) (v := .ref (g_ad G 2 j)) rfl dX1_enterOfLine_63 ?_
          refine lv_iconst (v := nI 3) hx hb dX1_enterOfLine_66 (by decide) ?_
          refine lv_iload hx hb dX1_enterOfLine_67 (lv_at hl 2 rfl) ?_
          refine lv_iadd hx hb dX1_enterOfLine_69 ?_
          refine top_i (y := nI (3 + i)) (nI_add 3 i) ?_
          refine afl hx hb hw hT 2 j (show j < 1026 by omega) (f := bxS S j) rfl (3 + i) (show 3 + i < 6 by omega) (by decide) dX1_enterOfLine_70 ?_
          refine fc_lle (x := bxS S a i) (y := bxS S j (3 + i)) (tgt := 174) hx hb dX1_enterOfLine_71 dX1_enterOfLine_72 (by decide) (fun h15 => ?_) (fun h15 => ?_)
          · skip
            refine lv_iinc (v := nI (i + 1)) (lv' := [(4, .int (nI (i + 1))), (6, .float (FP.fsub (bxS S a (3 + i)) (bxS S a i))), (5, .float (bxS S a i)), (3, .float lv), (2, .float en), (0, .ref (g_ad G 1 j)), (1, .ref (g_ad G 1 a))]) hx hb dX1_enterOfLine_174 hl (k := 2) rfl (nI_add i 1) (by decide) rfl (fun ls hl => ?_)
            refine lv_goto (tgt := 7) hx hb dX1_enterOfLine_177 (by decide) ?_
            exact ih (i + 1) en lv H locs ls (by omega) (by rw [← hq]; simp [enG, enA, enB, enD, h4, h14, h15]) hw hS (lv_sub hl [0, 3, 4, 5, 6] rfl)
          · skip
            refine lv_ldcf (v := 3212836864) hx hb hown (hts _ (List.mem_of_getElem? (i := 2) rfl)) dX1_enterOfLine_75 ?_
            exact rf hx hb hlk hr hw hS (by rw [← hq]; simp [enG, enA, enB, enD, h4, h14, h15]) (Nat.le_of_ble_eq_true rfl) (Nat.le_of_ble_eq_true rfl) dX1_enterOfLine_77
  exact LOOP 3 0 FP.fconst0 FP.fconst1 _ _ ls (by omega) rfl hw hS (lv_sub hl [0, 1, 2, 3, 4] rfl)
end
section
/-! Sets of pairs, Body; the first rows are out of kit/laws/BITS -/
theorem ts_bit {w : Int64} {s : UInt64} {j : Nat} (hj : j < 64) (hs : s.toNat = j) : ((w.toUInt64 >>> s).toInt64 &&& 1) = 0 ↔ w.toBitVec.getLsbD j = false := by
  have e : (w.toUInt64 >>> s).toInt64.toBitVec = w.toBitVec >>> j := by
    apply BitVec.eq_of_toNat_eq
    show (w.toUInt64 >>> s).toNat = _
    rw [UInt64.toNat_shiftRight, hs, Nat.mod_eq_of_lt hj, BitVec.toNat_ushiftRight]
    rfl
  rw [← Int64.toBitVec_inj, Int64.toBitVec_and, e]
  show w.toBitVec >>> j &&& 1#64 = 0#64 ↔ _
  constructor
  · intro h
    have t := congrArg (fun x => x.getLsbD 0) h
    simpa using t
  · intro h
    apply BitVec.eq_of_getLsbD_eq
    intro i hi
    cases i with
    | zero => simp [h]
    | succ i => simp
theorem wb_tb (n : Nat) : (lN n).toBitVec = BitVec.ofNat 64 n := rfl
theorem wb_inj {a b : Int64} (h : a.toBitVec = b.toBitVec) : a = b := Int64.toBitVec_inj.mp h
theorem wb_tn {n : Nat} (h : n < 2 ^ 64) : (lN n).toBitVec.toNat = n := by rw [wb_tb, BitVec.toNat_ofNat, Nat.mod_eq_of_lt h]
theorem wb_of (x : Int64) : ∃ n, n < 2 ^ 64 ∧ x = lN n := ⟨x.toBitVec.toNat, x.toBitVec.isLt, wb_inj (by rw [wb_tb]; simp)⟩
theorem wb_of32 (x : Int32) : ∃ n, n < 2 ^ 32 ∧ x = nI n := ⟨x.toBitVec.toNat, x.toBitVec.isLt, Int32.toBitVec_inj.mp (by show _ = BitVec.ofNat 32 _; simp)⟩
theorem wb_c : ∀ k, k < 64 → ((nI k).toInt64 &&& 63) = lN k := by decide +kernel
theorem wb_cu : ∀ k, k < 64 → ((nI k).toInt64.toUInt64 &&& Int64.toUInt64 63) = UInt64.ofNat k := by decide +kernel
theorem wb_sm : ∀ k, k < 64 → (BitVec.ofNat 64 k).smod 64 = BitVec.ofNat 64 k := by decide +kernel
section LR
variable {p : Program} {l : Launch} {e : Env} {R : Room} {s : State} {m : MethodId} {args : Array Value} {below : List Frame} {meth : Method} {c : Code} {H : Heap} {locs : List Loc} {cells slots : Nat} {Q : State → Prop}
variable {cc : ByteArray} {pc : Nat} {ls : Array Slot} {rest : List Value}
theorem lg_cmp0 (x y : Int64) : lg_cmp x y = 0 ↔ x = y := by
  unfold lg_cmp
  constructor
  · intro h
    by_cases h1 : y < x
    · simp [h1] at h
    · by_cases h2 : x = y
      · exact h2
      · simp [h1, h2] at h
  · rintro rfl
    simp
theorem lc_eq (hx : p.tables.exec = Jvm.exec) (hb : c.code = cc) {x y : Int64} {off : Int} {tgt : Nat} (h1 : decode cc pc = .ok (.lcmp, 1)) (h2 : decode cc (pc + 1) = .ok (.ifCond .eq off, 3)) (ht : ((pc + 1 : Nat) : Int) + off = (tgt : Int))
    (kt : x = y → W p l e R s m args below meth c H locs cells slots Q (F0 m tgt ls rest)) (kf : ¬ x = y → W p l e R s m args below meth c H locs cells slots Q (F0 m (pc + 4) ls rest)) : W p l e R s m args below meth c H locs cells slots Q (F0 m pc ls (.long y :: .long x :: rest)) := by
  refine W.lcmp hx hb h1 ?_
  exact lv_if_eq (tgt := tgt) hx hb h2 ht (fun h => kt ((lg_cmp0 x y).mp h)) (fun h => kf (fun q => h ((lg_cmp0 x y).mpr q)))
end LR
/-- a bit of a word -/
def tb (w : Int64) (b : Nat) : Bool := w.toBitVec.getLsbD b
theorem tb_0 (w : Int64) {b : Nat} (hb : b < 64) : ((w.toUInt64 >>> ((nI b).toInt64.toUInt64 &&& Int64.toUInt64 63)).toInt64 &&& 1) = 0 ↔ tb w b = false := by
  refine ts_bit hb ?_
  rw [wb_cu b hb]
  simp [UInt64.toNat_ofNat']
  omega
theorem tb_1 (w : Int64) {b : Nat} (hb : b < 64) : ¬ ((w.toUInt64 >>> ((nI b).toInt64.toUInt64 &&& Int64.toUInt64 63)).toInt64 &&& 1) = 0 ↔ tb w b = true := by
  rw [tb_0 w hb]; cases tb w b <;> simp
/-- the word with the bit turned -/
def tflip (w : Int64) (b : Nat) : Int64 := w ^^^ ((1 : Int64) <<< ((nI b).toInt64 &&& 63))
def hdS (S : St) (i q : Nat) : Bool := tb (pwS S i (q / 64)) (q % 64)
def putS (S : St) (i q : Nat) (b : Bool) : St := if hdS S i q = b then S else psU (pwU S (va_up (pwS S) i (va_up (pwS S i) (q / 64) (tflip (pwS S i (q / 64)) (q % 64))))) (va_up (psS S) i (psS S i + (if b = true then nI 1 else (-1))))
def cpsS (S : St) (i a : Nat) : St := psU (pwU S (va_up (pwS S) i (va_cpy (pwS S a) (pwS S i) 0 0 4096))) (va_up (psS S) i (psS S a))
def bcF (x0 : Int64) : Int32 :=
  let u := fun (x : Int64) (k : Int32) => (x.toUInt64 >>> (k.toInt64.toUInt64 &&& Int64.toUInt64 63)).toInt64
  let x1 := x0 - (u x0 (nI 1) &&& 6148914691236517205)
  let x2 := (x1 &&& 3689348814741910323) + (u x1 (nI 2) &&& 3689348814741910323)
  let x3 := (x2 + u x2 (nI 4)) &&& 1085102592571150095
  let x4 := x3 + u x3 (nI 8)
  let x5 := x4 + u x4 (nI 16)
  let x6 := x5 + u x5 (nI 32)
  x6.toInt32 &&& nI 127
def dfW (a b : Nat → Int64) (k : Nat) : Int64 := a k &&& (b k ^^^ (-1))
def dfR (a b o : Nat → Int64) (n : Nat) : Nat → Int64 := fun k => if k < n then dfW a b k else o k
def dfC (a b : Nat → Int64) : Nat → Int32
  | 0 => nI 0
  | n + 1 => dfC a b n + bcF (dfW a b n)
def dfS (S : St) (i a b n : Nat) : St := psU (pwU S (va_up (pwS S) i (dfR (pwS S a) (pwS S b) (pwS S i) n))) (va_up (psS S) i (dfC (pwS S a) (pwS S b) n))
/-- bit k of a word, counted from the lowest set one: n bits are left, from b on -/
def baF (w : Int64) : Nat → Nat → Int32 → Int32
  | 0, _, _ => nI 0
  | n + 1, b, left => if tb w b = true then (if left = 0 then nI b else baF w n (b + 1) (left + (-1))) else baF w n (b + 1) left
def caF (f : Nat → Int64) : Nat → Nat → Int32 → Int32
  | 0, _, _ => -1
  | n + 1, i, left => if left < bcF (f i) then nI (i * 64) + baF (f i) 64 0 left else caF f n (i + 1) (left - bcF (f i))
def lvS (S : St) (k : Nat) : St := tcU (thU S (va_up (thS S) k false)) (va_up (tcS S) k false)
def flS (S : St) (k : Nat) (g m : Int32) : St := tcU (mkU (grU S (va_up (grS S) k g)) (va_up (mkS S) k m)) (va_up (tcS S) k true)
def cpF6 (S : St) (j a : Nat) : St := boxU S j (va_cpy (bxS S a) (bxS S j) 0 0 6)
def wdS (S : St) (j : Nat) (dx dy dz : UInt32) : St := boxU S j (wdF (bxS S j) dx dy dz)
def apS (S : St) (k a : Nat) (g m : Int32) : St := flS (wdS (cpF6 (cpF6 (thU S (va_up (thS S) k true)) (2 * k + 2) a) (2 * k + 3) a) (2 * k + 3) FP.fconst0 FP.fconst0 FP.fconst0) k g m
def mtB (S : St) (k a : Nat) : Bool := liF (bxS (cpF6 S (2 * k + 2) a) (2 * k + 2)) (bxS (cpF6 S (2 * k + 2) a) (2 * k + 3))
def mtW (S : St) (k a : Nat) (dx dy dz : UInt32) : St := wdS (cpF6 (cpF6 S (2 * k + 2) a) (2 * k + 3) a) (2 * k + 3) dx dy dz
def mtS (S : St) (k a : Nat) (dx dy dz : UInt32) : St := if mtB S k a = true then cpF6 S (2 * k + 2) a else tcU (mtW S k a dx dy dz) (va_up (tcS S) k true)
def pwB (S : St) (k o : Nat) : Bool := thS S k && (thS S o && (!(grS S k &&& mkS S o == 0) && (!(grS S o &&& mkS S k == 0) && ovF (bxS S (2 * k + 3)) (bxS S (2 * o + 3)))))
set_option maxRecDepth 100000 in
set_option maxHeartbeats 4000000 in
theorem c_bitCount (l : Launch) (G : Gm) (S : St) (x : Int64) : Pi l yJ13_bitCount_95d88 wsJ13_bitCount_95d88 ({ frames := 0, cells := 0, slots := 0, locals := 0 } : Room) [.long x] G S (bcF x) S := by
  refine ent (cc := cJ13_bitCount_95d88) (maxL := 2) (ret := (some .int)) (by decide) rfl (Nat.le_of_ble_eq_true rfl) ?_
  intro p e s m below meth c ls C hw hT hS hl
  obtain ⟨hx, hb, hr, hml, hown, hts, hlk⟩ := C
  have hl : lv_has ls 2 [(0, .long x)] := hl
  refine lv_lload_n hx hb dJ13_bitCount_95d88_0 rfl (lv_at hl 0 rfl) ?_
  refine lv_lload_n hx hb dJ13_bitCount_95d88_1 rfl (lv_at hl 0 rfl) ?_
  refine lv_iconst (v := nI 1) hx hb dJ13_bitCount_95d88_2 (by decide) ?_
  refine lv_lushr hx hb dJ13_bitCount_95d88_3 rfl ?_
  refine lv_ldc2 (v := 6148914691236517205) hx hb hown (hts _ (List.mem_of_getElem? (i := 1) rfl)) dJ13_bitCount_95d88_4 ?_
  refine lv_land hx hb dJ13_bitCount_95d88_7 ?_
  refine lv_lsub hx hb dJ13_bitCount_95d88_8 ?_
  refine lv_lstore_n (lv' := [(0, .long (x - (((x.toUInt64 >>> ((nI 1).toInt64.toUInt64 &&& Int64.toUInt64 63)).toInt64) &&& 6148914691236517205)))]) hx hb dJ13_bitCount_95d88_9 rfl hl (by decide) rfl (fun ls hl => ?_)
  refine lv_lload_n hx hb dJ13_bitCount_95d88_10 rfl (lv_at hl 0 rfl) ?_
  refine lv_ldc2 (v := 3689348814741910323) hx hb hown (hts _ (List.mem_of_getElem? (i := 2) rfl)) dJ13_bitCount_95d88_11 ?_
  refine lv_land hx hb dJ13_bitCount_95d88_14 ?_
  refine lv_lload_n hx hb dJ13_bitCount_95d88_15 rfl (lv_at hl 0 rfl) ?_
  refine lv_iconst (v := nI 2) hx hb dJ13_bitCount_95d88_16 (by decide) ?_
  refine lv_lushr hx hb dJ13_bitCount_95d88_17 rfl ?_
  refine lv_ldc2 (v := 3689348814741910323) hx hb hown (hts _ (List.mem_of_getElem? (i := 2) rfl)) dJ13_bitCount_95d88_18 ?_
  refine lv_land hx hb dJ13_bitCount_95d88_21 ?_
  refine lv_ladd hx hb dJ13_bitCount_95d88_22 ?_
  refine lv_lstore_n (lv' := [(0, .long (((x - (((x.toUInt64 >>> ((nI 1).toInt64.toUInt64 &&& Int64.toUInt64 63)).toInt64) &&& 6148914691236517205)) &&& 3689348814741910323) + ((((x - (((x.toUInt64 >>> ((nI 1).toInt64.toUInt64 &&& Int64.toUInt64 63)).toInt64) &&& 6148914691236517205)).toUInt64 >>> ((nI 2).toInt64.toUInt64 &&& Int64.toUInt64 63)).toInt64) &&& 3689348814741910323)))]) hx hb dJ13_bitCount_95d88_23 rfl hl (by decide) rfl (fun ls hl => ?_)
  refine lv_lload_n hx hb dJ13_bitCount_95d88_24 rfl (lv_at hl 0 rfl) ?_
  refine lv_lload_n hx hb dJ13_bitCount_95d88_25 rfl (lv_at hl 0 rfl) ?_
  refine lv_iconst (v := nI 4) hx hb dJ13_bitCount_95d88_26 (by decide) ?_
  refine lv_lushr hx hb dJ13_bitCount_95d88_27 rfl ?_
  refine lv_ladd hx hb dJ13_bitCount_95d88_28 ?_
  refine lv_ldc2 (v := 1085102592571150095) hx hb hown (hts _ (List.mem_of_getElem? (i := 3) rfl)) dJ13_bitCount_95d88_29 ?_
  refine lv_land hx hb dJ13_bitCount_95d88_32 ?_
  refine lv_lstore_n (lv' := [(0, .long (((((x - (((x.toUInt64 >>> ((nI 1).toInt64.toUInt64 &&& Int64.toUInt64 63)).toInt64) &&& 6148914691236517205)) &&& 3689348814741910323) + ((((x - (((x.toUInt64 >>> ((nI 1).toInt64.toUInt64 &&& Int64.toUInt64 63)).toInt64) &&& 6148914691236517205)).toUInt64 >>> ((nI 2).toInt64.toUInt64 &&& Int64.toUInt64 63)).toInt64) &&& 3689348814741910323)) + (((((x - (((x.toUInt64 >>> ((nI 1).toInt64.toUInt64 &&& Int64.toUInt64 63)).toInt64) &&& 6148914691236517205)) &&& 3689348814741910323) + ((((x - (((x.toUInt64 >>> ((nI 1).toInt64.toUInt64 &&& Int64.toUInt64 63)).toInt64) &&& 6148914691236517205)).toUInt64 >>> ((nI 2).toInt64.toUInt64 &&& Int64.toUInt64 63)).toInt64) &&& 3689348814741910323)).toUInt64 >>> ((nI 4).toInt64.toUInt64 &&& Int64.toUInt64 63)).toInt64)) &&& 1085102592571150095))]) hx hb dJ13_bitCount_95d88_33 rfl hl (by decide) rfl (fun ls hl => ?_)
  refine lv_lload_n hx hb dJ13_bitCount_95d88_34 rfl (lv_at hl 0 rfl) ?_
  refine lv_lload_n hx hb dJ13_bitCount_95d88_35 rfl (lv_at hl 0 rfl) ?_
  refine lv_bipush (v := nI 8) hx hb dJ13_bitCount_95d88_36 (by decide) ?_
  refine lv_lushr hx hb dJ13_bitCount_95d88_38 rfl ?_
  refine lv_ladd hx hb dJ13_bitCount_95d88_39 ?_
  refine lv_lstore_n (lv' := [(0, .long ((((((x - (((x.toUInt64 >>> ((nI 1).toInt64.toUInt64 &&& Int64.toUInt64 63)).toInt64) &&& 6148914691236517205)) &&& 3689348814741910323) + ((((x - (((x.toUInt64 >>> ((nI 1).toInt64.toUInt64 &&& Int64.toUInt64 63)).toInt64) &&& 6148914691236517205)).toUInt64 >>> ((nI 2).toInt64.toUInt64 &&& Int64.toUInt64 63)).toInt64) &&& 3689348814741910323)) + (((((x - (((x.toUInt64 >>> ((nI 1).toInt64.toUInt64 &&& Int64.toUInt64 63)).toInt64) &&& 6148914691236517205)) &&& 3689348814741910323) + ((((x - (((x.toUInt64 >>> ((nI 1).toInt64.toUInt64 &&& Int64.toUInt64 63)).toInt64) &&& 6148914691236517205)).toUInt64 >>> ((nI 2).toInt64.toUInt64 &&& Int64.toUInt64 63)).toInt64) &&& 3689348814741910323)).toUInt64 >>> ((nI 4).toInt64.toUInt64 &&& Int64.toUInt64 63)).toInt64)) &&& 1085102592571150095) + (((((((x - (((x.toUInt64 >>> ((nI 1).toInt64.toUInt64 &&& Int64.toUInt64 63)).toInt64) &&& 6148914691236517205)) &&& 3689348814741910323) + ((((x - (((x.toUInt64 >>> ((nI 1).toInt64.toUInt64 &&& Int64.toUInt64 63)).toInt64) &&& 6148914691236517205)).toUInt64 >>> ((nI 2).toInt64.toUInt64 &&& Int64.toUInt64 63)).toInt64) &&& 3689348814741910323)) + (((((x - (((x.toUInt64 >>> ((nI 1).toInt64.toUInt64 &&& Int64.toUInt64 63)).toInt64) &&& 6148914691236517205)) &&& 3689348814741910323) + ((((x - (((x.toUInt64 >>> ((nI 1).toInt64.toUInt64 &&& Int64.toUInt64 63)).toInt64) &&& 6148914691236517205)).toUInt64 >>> ((nI 2).toInt64.toUInt64 &&& Int64.toUInt64 63)).toInt64) &&& 3689348814741910323)).toUInt64 >>> ((nI 4).toInt64.toUInt64 &&& Int64.toUInt64 63)).toInt64)) &&& 1085102592571150095).toUInt64 >>> ((nI 8).toInt64.toUInt64 &&& Int64.toUInt64 63)).toInt64)))]) hx hb dJ13_bitCount_95d88_40 rfl hl (by decide) rfl (fun ls hl => ?_)
  refine lv_lload_n hx hb dJ13_bitCount_95d88_41 rfl (lv_at hl 0 rfl) ?_
  refine lv_lload_n hx hb dJ13_bitCount_95d88_42 rfl (lv_at hl 0 rfl) ?_
  refine lv_bipush (v := nI 16) hx hb dJ13_bitCount_95d88_43 (by decide) ?_
  refine lv_lushr hx hb dJ13_bitCount_95d88_45 rfl ?_
  refine lv_ladd hx hb dJ13_bitCount_95d88_46 ?_
  refine lv_lstore_n (lv' := [(0, .long (((((((x - (((x.toUInt64 >>> ((nI 1).toInt64.toUInt64 &&& Int64.toUInt64 63)).toInt64) &&& 6148914691236517205)) &&& 3689348814741910323) + ((((x - (((x.toUInt64 >>> ((nI 1).toInt64.toUInt64 &&& Int64.toUInt64 63)).toInt64) &&& 6148914691236517205)).toUInt64 >>> ((nI 2).toInt64.toUInt64 &&& Int64.toUInt64 63)).toInt64) &&& 3689348814741910323)) + (((((x - (((x.toUInt64 >>> ((nI 1).toInt64.toUInt64 &&& Int64.toUInt64 63)).toInt64) &&& 6148914691236517205)) &&& 3689348814741910323) + ((((x - (((x.toUInt64 >>> ((nI 1).toInt64.toUInt64 &&& Int64.toUInt64 63)).toInt64) &&& 6148914691236517205)).toUInt64 >>> ((nI 2).toInt64.toUInt64 &&& Int64.toUInt64 63)).toInt64) &&& 3689348814741910323)).toUInt64 >>> ((nI 4).toInt64.toUInt64 &&& Int64.toUInt64 63)).toInt64)) &&& 1085102592571150095) + (((((((x - (((x.toUInt64 >>> ((nI 1).toInt64.toUInt64 &&& Int64.toUInt64 63)).toInt64) &&& 6148914691236517205)) &&& 3689348814741910323) + ((((x - (((x.toUInt64 >>> ((nI 1).toInt64.toUInt64 &&& Int64.toUInt64 63)).toInt64) &&& 6148914691236517205)).toUInt64 >>> ((nI 2).toInt64.toUInt64 &&& Int64.toUInt64 63)).toInt64) &&& 3689348814741910323)) + (((((x - (((x.toUInt64 >>> ((nI 1).toInt64.toUInt64 &&& Int64.toUInt64 63)).toInt64) &&& 6148914691236517205)) &&& 3689348814741910323) + ((((x - (((x.toUInt64 >>> ((nI 1).toInt64.toUInt64 &&& Int64.toUInt64 63)).toInt64) &&& 6148914691236517205)).toUInt64 >>> ((nI 2).toInt64.toUInt64 &&& Int64.toUInt64 63)).toInt64) &&& 3689348814741910323)).toUInt64 >>> ((nI 4).toInt64.toUInt64 &&& Int64.toUInt64 63)).toInt64)) &&& 1085102592571150095).toUInt64 >>> ((nI 8).toInt64.toUInt64 &&& Int64.toUInt64 63)).toInt64)) + ((((((((x - (((x.toUInt64 >>> ((nI 1).toInt64.toUInt64 &&& Int64.toUInt64 63)).toInt64) &&& 6148914691236517205)) &&& 3689348814741910323) + ((((x - (((x.toUInt64 >>> ((nI 1).toInt64.toUInt64 &&& Int64.toUInt64 63)).toInt64) &&& 6148914691236517205)).toUInt64 >>> ((nI 2).toInt64.toUInt64 &&& Int64.toUInt64 63)).toInt64) &&& 3689348814741910323)) + (((((x - (((x.toUInt64 >>> ((nI 1).toInt64.toUInt64 &&& Int64.toUInt64 63)).toInt64) &&& 6148914691236517205)) &&& 3689348814741910323) + ((((x - (((x.toUInt64 >>> ((nI 1).toInt64.toUInt64 &&& Int64.toUInt64 63)).toInt64) &&& 6148914691236517205)).toUInt64 >>> ((nI 2).toInt64.toUInt64 &&& Int64.toUInt64 63)).toInt64) &&& 3689348814741910323)).toUInt64 >>> ((nI 4).toInt64.toUInt64 &&& Int64.toUInt64 63)).toInt64)) &&& 1085102592571150095) + (((((((x - (((x.toUInt64 >>> ((nI 1).toInt64.toUInt64 &&& Int64.toUInt64 63)).toInt64) &&& 6148914691236517205)) &&& 3689348814741910323) + ((((x - (((x.toUInt64 >>> ((nI 1).toInt64.toUInt64 &&& Int64.toUInt64 63)).toInt64) &&& 6148914691236517205)).toUInt64 >>> ((nI 2).toInt64.toUInt64 &&& Int64.toUInt64 63)).toInt64) &&& 3689348814741910323)) + (((((x - (((x.toUInt64 >>> ((nI 1).toInt64.toUInt64 &&& Int64.toUInt64 63)).toInt64) &&& 6148914691236517205)) &&& 3689348814741910323) + ((((x - (((x.toUInt64 >>> ((nI 1).toInt64.toUInt64 &&& Int64.toUInt64 63)).toInt64) &&& 6148914691236517205)).toUInt64 >>> ((nI 2).toInt64.toUInt64 &&& Int64.toUInt64 63)).toInt64) &&& 3689348814741910323)).toUInt64 >>> ((nI 4).toInt64.toUInt64 &&& Int64.toUInt64 63)).toInt64)) &&& 1085102592571150095).toUInt64 >>> ((nI 8).toInt64.toUInt64 &&& Int64.toUInt64 63)).toInt64)).toUInt64 >>> ((nI 16).toInt64.toUInt64 &&& Int64.toUInt64 63)).toInt64)))]) hx hb dJ13_bitCount_95d88_47 rfl hl (by decide) rfl (fun ls hl => ?_)
  refine lv_lload_n hx hb dJ13_bitCount_95d88_48 rfl (lv_at hl 0 rfl) ?_
  refine lv_lload_n hx hb dJ13_bitCount_95d88_49 rfl (lv_at hl 0 rfl) ?_
  refine lv_bipush (v := nI 32) hx hb dJ13_bitCount_95d88_50 (by decide) ?_
  refine lv_lushr hx hb dJ13_bitCount_95d88_52 rfl ?_
  refine lv_ladd hx hb dJ13_bitCount_95d88_53 ?_
  refine lv_lstore_n (lv' := [(0, .long ((((((((x - (((x.toUInt64 >>> ((nI 1).toInt64.toUInt64 &&& Int64.toUInt64 63)).toInt64) &&& 6148914691236517205)) &&& 3689348814741910323) + ((((x - (((x.toUInt64 >>> ((nI 1).toInt64.toUInt64 &&& Int64.toUInt64 63)).toInt64) &&& 6148914691236517205)).toUInt64 >>> ((nI 2).toInt64.toUInt64 &&& Int64.toUInt64 63)).toInt64) &&& 3689348814741910323)) + (((((x - (((x.toUInt64 >>> ((nI 1).toInt64.toUInt64 &&& Int64.toUInt64 63)).toInt64) &&& 6148914691236517205)) &&& 3689348814741910323) + ((((x - (((x.toUInt64 >>> ((nI 1).toInt64.toUInt64 &&& Int64.toUInt64 63)).toInt64) &&& 6148914691236517205)).toUInt64 >>> ((nI 2).toInt64.toUInt64 &&& Int64.toUInt64 63)).toInt64) &&& 3689348814741910323)).toUInt64 >>> ((nI 4).toInt64.toUInt64 &&& Int64.toUInt64 63)).toInt64)) &&& 1085102592571150095) + (((((((x - (((x.toUInt64 >>> ((nI 1).toInt64.toUInt64 &&& Int64.toUInt64 63)).toInt64) &&& 6148914691236517205)) &&& 3689348814741910323) + ((((x - (((x.toUInt64 >>> ((nI 1).toInt64.toUInt64 &&& Int64.toUInt64 63)).toInt64) &&& 6148914691236517205)).toUInt64 >>> ((nI 2).toInt64.toUInt64 &&& Int64.toUInt64 63)).toInt64) &&& 3689348814741910323)) + (((((x - (((x.toUInt64 >>> ((nI 1).toInt64.toUInt64 &&& Int64.toUInt64 63)).toInt64) &&& 6148914691236517205)) &&& 3689348814741910323) + ((((x - (((x.toUInt64 >>> ((nI 1).toInt64.toUInt64 &&& Int64.toUInt64 63)).toInt64) &&& 6148914691236517205)).toUInt64 >>> ((nI 2).toInt64.toUInt64 &&& Int64.toUInt64 63)).toInt64) &&& 3689348814741910323)).toUInt64 >>> ((nI 4).toInt64.toUInt64 &&& Int64.toUInt64 63)).toInt64)) &&& 1085102592571150095).toUInt64 >>> ((nI 8).toInt64.toUInt64 &&& Int64.toUInt64 63)).toInt64)) + ((((((((x - (((x.toUInt64 >>> ((nI 1).toInt64.toUInt64 &&& Int64.toUInt64 63)).toInt64) &&& 6148914691236517205)) &&& 3689348814741910323) + ((((x - (((x.toUInt64 >>> ((nI 1).toInt64.toUInt64 &&& Int64.toUInt64 63)).toInt64) &&& 6148914691236517205)).toUInt64 >>> ((nI 2).toInt64.toUInt64 &&& Int64.toUInt64 63)).toInt64) &&& 3689348814741910323)) + (((((x - (((x.toUInt64 >>> ((nI 1).toInt64.toUInt64 &&& Int64.toUInt64 63)).toInt64) &&& 6148914691236517205)) &&& 3689348814741910323) + ((((x - (((x.toUInt64 >>> ((nI 1).toInt64.toUInt64 &&& Int64.toUInt64 63)).toInt64) &&& 6148914691236517205)).toUInt64 >>> ((nI 2).toInt64.toUInt64 &&& Int64.toUInt64 63)).toInt64) &&& 3689348814741910323)).toUInt64 >>> ((nI 4).toInt64.toUInt64 &&& Int64.toUInt64 63)).toInt64)) &&& 1085102592571150095) + (((((((x - (((x.toUInt64 >>> ((nI 1).toInt64.toUInt64 &&& Int64.toUInt64 63)).toInt64) &&& 6148914691236517205)) &&& 3689348814741910323) + ((((x - (((x.toUInt64 >>> ((nI 1).toInt64.toUInt64 &&& Int64.toUInt64 63)).toInt64) &&& 6148914691236517205)).toUInt64 >>> ((nI 2).toInt64.toUInt64 &&& Int64.toUInt64 63)).toInt64) &&& 3689348814741910323)) + (((((x - (((x.toUInt64 >>> ((nI 1).toInt64.toUInt64 &&& Int64.toUInt64 63)).toInt64) &&& 6148914691236517205)) &&& 3689348814741910323) + ((((x - (((x.toUInt64 >>> ((nI 1).toInt64.toUInt64 &&& Int64.toUInt64 63)).toInt64) &&& 6148914691236517205)).toUInt64 >>> ((nI 2).toInt64.toUInt64 &&& Int64.toUInt64 63)).toInt64) &&& 3689348814741910323)).toUInt64 >>> ((nI 4).toInt64.toUInt64 &&& Int64.toUInt64 63)).toInt64)) &&& 1085102592571150095).toUInt64 >>> ((nI 8).toInt64.toUInt64 &&& Int64.toUInt64 63)).toInt64)).toUInt64 >>> ((nI 16).toInt64.toUInt64 &&& Int64.toUInt64 63)).toInt64)) + (((((((((x - (((x.toUInt64 >>> ((nI 1).toInt64.toUInt64 &&& Int64.toUInt64 63)).toInt64) &&& 6148914691236517205)) &&& 3689348814741910323) + ((((x - (((x.toUInt64 >>> ((nI 1).toInt64.toUInt64 &&& Int64.toUInt64 63)).toInt64) &&& 6148914691236517205)).toUInt64 >>> ((nI 2).toInt64.toUInt64 &&& Int64.toUInt64 63)).toInt64) &&& 3689348814741910323)) + (((((x - (((x.toUInt64 >>> ((nI 1).toInt64.toUInt64 &&& Int64.toUInt64 63)).toInt64) &&& 6148914691236517205)) &&& 3689348814741910323) + ((((x - (((x.toUInt64 >>> ((nI 1).toInt64.toUInt64 &&& Int64.toUInt64 63)).toInt64) &&& 6148914691236517205)).toUInt64 >>> ((nI 2).toInt64.toUInt64 &&& Int64.toUInt64 63)).toInt64) &&& 3689348814741910323)).toUInt64 >>> ((nI 4).toInt64.toUInt64 &&& Int64.toUInt64 63)).toInt64)) &&& 1085102592571150095) + (((((((x - (((x.toUInt64 >>> ((nI 1).toInt64.toUInt64 &&& Int64.toUInt64 63)).toInt64) &&& 6148914691236517205)) &&& 3689348814741910323) + ((((x - (((x.toUInt64 >>> ((nI 1).toInt64.toUInt64 &&& Int64.toUInt64 63)).toInt64) &&& 6148914691236517205)).toUInt64 >>> ((nI 2).toInt64.toUInt64 &&& Int64.toUInt64 63)).toInt64) &&& 3689348814741910323)) + (((((x - (((x.toUInt64 >>> ((nI 1).toInt64.toUInt64 &&& Int64.toUInt64 63)).toInt64) &&& 6148914691236517205)) &&& 3689348814741910323) + ((((x - (((x.toUInt64 >>> ((nI 1).toInt64.toUInt64 &&& Int64.toUInt64 63)).toInt64) &&& 6148914691236517205)).toUInt64 >>> ((nI 2).toInt64.toUInt64 &&& Int64.toUInt64 63)).toInt64) &&& 3689348814741910323)).toUInt64 >>> ((nI 4).toInt64.toUInt64 &&& Int64.toUInt64 63)).toInt64)) &&& 1085102592571150095).toUInt64 >>> ((nI 8).toInt64.toUInt64 &&& Int64.toUInt64 63)).toInt64)) + ((((((((x - (((x.toUInt64 >>> ((nI 1).toInt64.toUInt64 &&& Int64.toUInt64 63)).toInt64) &&& 6148914691236517205)) &&& 3689348814741910323) + ((((x - (((x.toUInt64 >>> ((nI 1).toInt64.toUInt64 &&& Int64.toUInt64 63)).toInt64) &&& 6148914691236517205)).toUInt64 >>> ((nI 2).toInt64.toUInt64 &&& Int64.toUInt64 63)).toInt64) &&& 3689348814741910323)) + (((((x - (((x.toUInt64 >>> ((nI 1).toInt64.toUInt64 &&& Int64.toUInt64 63)).toInt64) &&& 6148914691236517205)) &&& 3689348814741910323) + ((((x - (((x.toUInt64 >>> ((nI 1).toInt64.toUInt64 &&& Int64.toUInt64 63)).toInt64) &&& 6148914691236517205)).toUInt64 >>> ((nI 2).toInt64.toUInt64 &&& Int64.toUInt64 63)).toInt64) &&& 3689348814741910323)).toUInt64 >>> ((nI 4).toInt64.toUInt64 &&& Int64.toUInt64 63)).toInt64)) &&& 1085102592571150095) + (((((((x - (((x.toUInt64 >>> ((nI 1).toInt64.toUInt64 &&& Int64.toUInt64 63)).toInt64) &&& 6148914691236517205)) &&& 3689348814741910323) + ((((x - (((x.toUInt64 >>> ((nI 1).toInt64.toUInt64 &&& Int64.toUInt64 63)).toInt64) &&& 6148914691236517205)).toUInt64 >>> ((nI 2).toInt64.toUInt64 &&& Int64.toUInt64 63)).toInt64) &&& 3689348814741910323)) + (((((x - (((x.toUInt64 >>> ((nI 1).toInt64.toUInt64 &&& Int64.toUInt64 63)).toInt64) &&& 6148914691236517205)) &&& 3689348814741910323) + ((((x - (((x.toUInt64 >>> ((nI 1).toInt64.toUInt64 &&& Int64.toUInt64 63)).toInt64) &&& 6148914691236517205)).toUInt64 >>> ((nI 2).toInt64.toUInt64 &&& Int64.toUInt64 63)).toInt64) &&& 3689348814741910323)).toUInt64 >>> ((nI 4).toInt64.toUInt64 &&& Int64.toUInt64 63)).toInt64)) &&& 1085102592571150095).toUInt64 >>> ((nI 8).toInt64.toUInt64 &&& Int64.toUInt64 63)).toInt64)).toUInt64 >>> ((nI 16).toInt64.toUInt64 &&& Int64.toUInt64 63)).toInt64)).toUInt64 >>> ((nI 32).toInt64.toUInt64 &&& Int64.toUInt64 63)).toInt64)))]) hx hb dJ13_bitCount_95d88_54 rfl hl (by decide) rfl (fun ls hl => ?_)
  refine lv_lload_n hx hb dJ13_bitCount_95d88_55 rfl (lv_at hl 0 rfl) ?_
  refine lv_l2i hx hb dJ13_bitCount_95d88_56 rfl ?_
  refine lv_bipush (v := nI 127) hx hb dJ13_bitCount_95d88_57 (by decide) ?_
  refine lv_iand hx hb dJ13_bitCount_95d88_59 ?_
  exact ri hx hb hlk hr hw hS rfl (vp_nar_int _) (Nat.le_of_ble_eq_true rfl) (Nat.le_of_ble_eq_true rfl) dJ13_bitCount_95d88_60
set_option maxRecDepth 100000 in
set_option maxHeartbeats 4000000 in
theorem c_holds (l : Launch) (G : Gm) (S : St) (i : Nat) (hi : i < 4) (q : Nat) (hq : q < 262144) : Pi l yX2_holds wsX2_holds ({ frames := 0, cells := 0, slots := 0, locals := 0 } : Room) [.ref (g_ad G 5 i), .int (nI q)] G S (bI (hdS S i q)) S := by
  refine ent (cc := cX2_holds) (maxL := 2) (ret := (some .boolean)) (by decide) rfl (Nat.le_of_ble_eq_true rfl) ?_
  intro p e s m below meth c ls C hw hT hS hl
  obtain ⟨hx, hb, hr, hml, hown, hts, hlk⟩ := C
  have hl : lv_has ls 2 [(0, .ref (g_ad G 5 i)), (1, .int (nI q))] := hl
  refine lv_aload_n hx hb dX2_holds_0 rfl (lv_at hl 0 rfl) ?_
  refine gf hx hb hown hts hw hT 5 i (show i < 4 by omega) (ci := 2) rfl rfl (fun _ h => List.mem_cons_of_mem _ (List.mem_append_right _ h)) 0 (by decide) (List.mem_of_getElem? (i := 1) rfl) (v := .ref (g_ad G 6 i)) rfl dX2_holds_1 ?_
  refine lv_iload_n hx hb dX2_holds_4 rfl (lv_at hl 1 rfl) ?_
  refine lv_bipush (v := nI 64) hx hb dX2_holds_5 (by decide) ?_
  refine lv_idiv hx hb dX2_holds_7 (by decide) ?_
  refine top_i (y := nI (q / 64)) (pk_div (by omega) (by decide) (by decide)) ?_
  refine all hx hb hw hT 6 i (show i < 4 by omega) (f := pwS S i) rfl (q / 64) (show q / 64 < 4096 by omega) (by decide) dX2_holds_8 ?_
  refine lv_iload_n hx hb dX2_holds_9 rfl (lv_at hl 1 rfl) ?_
  refine lv_bipush (v := nI 64) hx hb dX2_holds_10 (by decide) ?_
  refine lv_irem hx hb dX2_holds_12 (by decide) ?_
  refine top_i (y := nI (q % 64)) (pk_rem (by omega) (by decide) (by decide)) ?_
  refine lv_lushr hx hb dX2_holds_13 rfl ?_
  refine lv_lconst (v := 1) hx hb dX2_holds_14 (by decide) ?_
  refine lv_land hx hb dX2_holds_15 ?_
  refine lv_lconst (v := 0) hx hb dX2_holds_16 (by decide) ?_
  refine lc_eq (x := (((pwS S i (q / 64)).toUInt64 >>> ((nI (q % 64)).toInt64.toUInt64 &&& Int64.toUInt64 63)).toInt64) &&& 1) (y := 0) (tgt := 25) hx hb dX2_holds_17 dX2_holds_18 (by decide) (fun h1 => ?_) (fun h1 => ?_)
  · skip
    have h1 := (tb_0 (pwS S i (q / 64)) (by omega)).mp h1
    refine lv_iconst (v := nI 0) hx hb dX2_holds_25 (by decide) ?_
    refine top_i (y := bI false) (by decide) ?_
    exact ri hx hb hlk hr hw hS (congrArg bI (by simp [hdS, h1])) (bI_nar _) (Nat.le_of_ble_eq_true rfl) (Nat.le_of_ble_eq_true rfl) dX2_holds_26
  · skip
    have h1 := (tb_1 (pwS S i (q / 64)) (by omega)).mp h1
    refine lv_iconst (v := nI 1) hx hb dX2_holds_21 (by decide) ?_
    refine lv_goto (tgt := 26) hx hb dX2_holds_22 (by decide) ?_
    refine top_i (y := bI true) (by decide) ?_
    exact ri hx hb hlk hr hw hS (congrArg bI (by simp [hdS, h1])) (bI_nar _) (Nat.le_of_ble_eq_true rfl) (Nat.le_of_ble_eq_true rfl) dX2_holds_26
set_option maxRecDepth 100000 in
set_option maxHeartbeats 4000000 in
theorem c_put (l : Launch) (G : Gm) (S : St) (i : Nat) (hi : i < 4) (q : Nat) (hq : q < 262144) (b : Bool) : Pv l yX2_put wsX2_put ({ frames := 1, cells := 0, slots := 0, locals := 21 } : Room) [.ref (g_ad G 5 i), .int (nI q), .int (bI b)] G S (putS S i q b) := by
  refine ent (cc := cX2_put) (maxL := 3) (ret := none) (by decide) rfl (Nat.le_of_ble_eq_true rfl) ?_
  intro p e s m below meth c ls C hw hT hS hl
  obtain ⟨hx, hb, hr, hml, hown, hts, hlk⟩ := C
  have hl : lv_has ls 3 [(0, .ref (g_ad G 5 i)), (1, .int (nI q)), (2, .int (bI b))] := hl
  refine lv_aload_n hx hb dX2_put_0 rfl (lv_at hl 0 rfl) ?_
  refine lv_iload_n hx hb dX2_put_1 rfl (lv_at hl 1 rfl) ?_
  refine cVi ⟨hx, hb, hml, hown, hts⟩ (c_holds l G S i (show i < 4 by omega) q (by omega)) (cwV 1 hts gX2_put_X2_holds rfl rfl rfl (by decide +kernel) ⟨(Nat.le_of_ble_eq_true rfl), (Nat.le_of_ble_eq_true rfl)⟩) hw hT hS (rcv hw hT 5 i (show i < 4 by omega) rfl rfl) (As := [.int (nI q)]) (rest := []) rfl hl.1 rfl (Nat.le_of_ble_eq_true rfl) dX2_put_2 ⟨(Nat.le_of_ble_eq_true rfl), (Nat.le_of_ble_eq_true rfl)⟩ (fun H locs hw hS => ?_)
  refine lv_iload_n hx hb dX2_put_5 rfl (lv_at hl 2 rfl) ?_
  refine lv_icmp_eq (tgt := 45) hx hb dX2_put_6 (by decide) (fun h1 => ?_) (fun h1 => ?_)
  · skip
    have h1 := bI_inj h1
    exact rv hx hb hlk hr (by unfold putS; rw [if_pos h1]; exact hw) hS  (Nat.le_of_ble_eq_true rfl) (Nat.le_of_ble_eq_true rfl) dX2_put_45
  · skip
    have h1 : ¬ hdS S i q = b := fun z => h1 (by rw [z])
    refine lv_aload_n hx hb dX2_put_9 rfl (lv_at hl 0 rfl) ?_
    refine gf hx hb hown hts hw hT 5 i (show i < 4 by omega) (ci := 2) rfl rfl (fun _ h => List.mem_cons_of_mem _ (List.mem_append_right _ h)) 0 (by decide) (List.mem_of_getElem? (i := 1) rfl) (v := .ref (g_ad G 6 i)) rfl dX2_put_10 ?_
    refine lv_iload_n hx hb dX2_put_13 rfl (lv_at hl 1 rfl) ?_
    refine lv_bipush (v := nI 64) hx hb dX2_put_14 (by decide) ?_
    refine lv_idiv hx hb dX2_put_16 (by decide) ?_
    refine top_i (y := nI (q / 64)) (pk_div (by omega) (by decide) (by decide)) ?_
    refine lv_dup2_11 hx hb dX2_put_17 rfl rfl ?_
    refine all hx hb hw hT 6 i (show i < 4 by omega) (f := pwS S i) rfl (q / 64) (show q / 64 < 4096 by omega) (by decide) dX2_put_18 ?_
    refine lv_lconst (v := 1) hx hb dX2_put_19 (by decide) ?_
    refine lv_iload_n hx hb dX2_put_20 rfl (lv_at hl 1 rfl) ?_
    refine lv_bipush (v := nI 64) hx hb dX2_put_21 (by decide) ?_
    refine lv_irem hx hb dX2_put_23 (by decide) ?_
    refine top_i (y := nI (q % 64)) (pk_rem (by omega) (by decide) (by decide)) ?_
    refine lv_lshl hx hb dX2_put_24 rfl ?_
    refine lv_lxor hx hb dX2_put_25 ?_
    refine als (S' := (pwU S (va_up (pwS S) i (va_up (pwS S i) (q / 64) ((pwS S i (q / 64)) ^^^ (1 <<< ((nI (q % 64)).toInt64 &&& 63))))))) hx hb hw hT hS 6 i (show i < 4 by omega) (f := pwS S i) rfl (q / 64) (show q / 64 < 4096 by omega) (by decide) (mup_pw G S i (va_up (pwS S i) (q / 64) ((pwS S i (q / 64)) ^^^ (1 <<< ((nI (q % 64)).toInt64 &&& 63))))) dX2_put_26 (fun H locs hw hS => ?_)
    refine lv_aload_n hx hb dX2_put_27 rfl (lv_at hl 0 rfl) ?_
    refine lv_dup hx hb dX2_put_28 rfl ?_
    refine gf hx hb hown hts hw hT 5 i (show i < 4 by omega) (ci := 2) rfl rfl (fun _ h => List.mem_cons_of_mem _ (List.mem_append_right _ h)) 1 (by decide) (List.mem_of_getElem? (i := 2) rfl) (v := .int (psS S i)) rfl dX2_put_29 ?_
    refine lv_iload_n hx hb dX2_put_32 rfl (lv_at hl 2 rfl) ?_
    refine lv_if_eq (tgt := 40) hx hb dX2_put_33 (by decide) (fun h2 => ?_) (fun h2 => ?_)
    · skip
      have h2 := bI_0.mp h2
      refine lv_iconst (v := (-1)) hx hb dX2_put_40 (by decide) ?_
      refine lv_iadd hx hb dX2_put_41 ?_
      refine pf (S' := (psU (pwU S (va_up (pwS S) i (va_up (pwS S i) (q / 64) ((pwS S i (q / 64)) ^^^ (1 <<< ((nI (q % 64)).toInt64 &&& 63)))))) (va_up (psS (pwU S (va_up (pwS S) i (va_up (pwS S i) (q / 64) ((pwS S i (q / 64)) ^^^ (1 <<< ((nI (q % 64)).toInt64 &&& 63))))))) i ((psS S i) + ((-1)))))) hx hb hown hts hw hT hS 5 i (show i < 4 by omega) (ci := 2) rfl rfl (fun _ h => List.mem_cons_of_mem _ (List.mem_append_right _ h)) tyX2 tyX2_ok nmX2 1 (by decide) (List.mem_of_getElem? (i := 2) rfl) rfl (ty := .int) (by decide +kernel) (vp_nar_int _) rfl (Nat.le_of_ble_eq_true rfl) (mup_ps G (pwU S (va_up (pwS S) i (va_up (pwS S i) (q / 64) ((pwS S i (q / 64)) ^^^ (1 <<< ((nI (q % 64)).toInt64 &&& 63)))))) i ((psS S i) + ((-1)))) dX2_put_42 (fun H locs hw hS => ?_)
      exact rv hx hb hlk hr (by unfold putS; rw [if_neg h1, if_neg (by rw [h2]; decide)]; exact hw) hS  (Nat.le_of_ble_eq_true rfl) (Nat.le_of_ble_eq_true rfl) dX2_put_45
    · skip
      have h2 := bI_n0.mp h2
      refine lv_iconst (v := nI 1) hx hb dX2_put_36 (by decide) ?_
      refine lv_goto (tgt := 41) hx hb dX2_put_37 (by decide) ?_
      refine lv_iadd hx hb dX2_put_41 ?_
      refine pf (S' := (psU (pwU S (va_up (pwS S) i (va_up (pwS S i) (q / 64) ((pwS S i (q / 64)) ^^^ (1 <<< ((nI (q % 64)).toInt64 &&& 63)))))) (va_up (psS (pwU S (va_up (pwS S) i (va_up (pwS S i) (q / 64) ((pwS S i (q / 64)) ^^^ (1 <<< ((nI (q % 64)).toInt64 &&& 63))))))) i ((psS S i) + (nI 1))))) hx hb hown hts hw hT hS 5 i (show i < 4 by omega) (ci := 2) rfl rfl (fun _ h => List.mem_cons_of_mem _ (List.mem_append_right _ h)) tyX2 tyX2_ok nmX2 1 (by decide) (List.mem_of_getElem? (i := 2) rfl) rfl (ty := .int) (by decide +kernel) (vp_nar_int _) rfl (Nat.le_of_ble_eq_true rfl) (mup_ps G (pwU S (va_up (pwS S) i (va_up (pwS S i) (q / 64) ((pwS S i (q / 64)) ^^^ (1 <<< ((nI (q % 64)).toInt64 &&& 63)))))) i ((psS S i) + (nI 1))) dX2_put_42 (fun H locs hw hS => ?_)
      exact rv hx hb hlk hr (by unfold putS; rw [if_neg h1, if_pos h2]; exact hw) hS  (Nat.le_of_ble_eq_true rfl) (Nat.le_of_ble_eq_true rfl) dX2_put_45
set_option maxRecDepth 100000 in
set_option maxHeartbeats 4000000 in
theorem c_copySet (l : Launch) (G : Gm) (S : St) (i : Nat) (hi : i < 4) (a : Nat) (ha : a < 4) (hne : a ≠ i) : Pv l yX2_copyFrom wsX2_copyFrom ({ frames := 1, cells := 0, slots := 0, locals := 60 } : Room) [.ref (g_ad G 5 i), .ref (g_ad G 5 a)] G S (cpsS S i a) := by
  refine ent (cc := cX2_copyFrom) (maxL := 2) (ret := none) (by decide) rfl (Nat.le_of_ble_eq_true rfl) ?_
  intro p e s m below meth c ls C hw hT hS hl
  obtain ⟨hx, hb, hr, hml, hown, hts, hlk⟩ := C
  have hl : lv_has ls 2 [(0, .ref (g_ad G 5 i)), (1, .ref (g_ad G 5 a))] := hl
  refine lv_aload_n hx hb dX2_copyFrom_0 rfl (lv_at hl 1 rfl) ?_
  refine gf hx hb hown hts hw hT 5 a (show a < 4 by omega) (ci := 2) rfl rfl (fun _ h => List.mem_cons_of_mem _ (List.mem_append_right _ h)) 0 (by decide) (List.mem_of_getElem? (i := 1) rfl) (v := .ref (g_ad G 6 a)) rfl dX2_copyFrom_1 ?_
  refine lv_iconst (v := nI 0) hx hb dX2_copyFrom_4 (by decide) ?_
  refine lv_aload_n hx hb dX2_copyFrom_5 rfl (lv_at hl 0 rfl) ?_
  refine gf hx hb hown hts hw hT 5 i (show i < 4 by omega) (ci := 2) rfl rfl (fun _ h => List.mem_cons_of_mem _ (List.mem_append_right _ h)) 0 (by decide) (List.mem_of_getElem? (i := 1) rfl) (v := .ref (g_ad G 6 i)) rfl dX2_copyFrom_6 ?_
  refine lv_iconst (v := nI 0) hx hb dX2_copyFrom_9 (by decide) ?_
  refine lv_sipush (v := nI 4096) hx hb dX2_copyFrom_10 (by decide) ?_
  refine cpJ (S' := (pwU S (va_up (pwS S) i (va_cpy (pwS S a) (pwS S i) 0 0 4096)))) hx hb hml hown hts (List.mem_of_getElem? (i := 2) rfl) (List.mem_of_getElem? (i := 3) rfl) (List.mem_of_getElem? (i := 4) rfl) (List.mem_of_getElem? (i := 5) rfl) hl.1 hw hT hS a i (show a < 4 by omega) (show i < 4 by omega) hne (mup_pw G S i (va_cpy (pwS S a) (pwS S i) 0 0 4096)) (Nat.le_of_ble_eq_true rfl) (Nat.le_of_ble_eq_true rfl) dX2_copyFrom_13 (fun H locs hw hS => ?_)
  refine lv_aload_n hx hb dX2_copyFrom_16 rfl (lv_at hl 0 rfl) ?_
  refine lv_aload_n hx hb dX2_copyFrom_17 rfl (lv_at hl 1 rfl) ?_
  refine gf hx hb hown hts hw hT 5 a (show a < 4 by omega) (ci := 2) rfl rfl (fun _ h => List.mem_cons_of_mem _ (List.mem_append_right _ h)) 1 (by decide) (List.mem_of_getElem? (i := 6) rfl) (v := .int (psS S a)) rfl dX2_copyFrom_18 ?_
  refine pf (S' := (psU (pwU S (va_up (pwS S) i (va_cpy (pwS S a) (pwS S i) 0 0 4096))) (va_up (psS (pwU S (va_up (pwS S) i (va_cpy (pwS S a) (pwS S i) 0 0 4096)))) i (psS S a)))) hx hb hown hts hw hT hS 5 i (show i < 4 by omega) (ci := 2) rfl rfl (fun _ h => List.mem_cons_of_mem _ (List.mem_append_right _ h)) tyX2 tyX2_ok nmX2 1 (by decide) (List.mem_of_getElem? (i := 6) rfl) rfl (ty := .int) (by decide +kernel) (vp_nar_int _) rfl (Nat.le_of_ble_eq_true rfl) (mup_ps G (pwU S (va_up (pwS S) i (va_cpy (pwS S a) (pwS S i) 0 0 4096))) i (psS S a)) dX2_copyFrom_21 (fun H locs hw hS => ?_)
  exact rv hx hb hlk hr hw hS  (Nat.le_of_ble_eq_true rfl) (Nat.le_of_ble_eq_true rfl) dX2_copyFrom_24
set_option maxRecDepth 100000 in
set_option maxHeartbeats 4000000 in
theorem c_bitAt (l : Launch) (G : Gm) (S : St) (x : Int64) (k : Int32) : Pi l yX2_bitAt wsX2_bitAt ({ frames := 0, cells := 0, slots := 0, locals := 0 } : Room) [.long x, .int k] G S (baF x 64 0 k) S := by
  refine ent (cc := cX2_bitAt) (maxL := 5) (ret := (some .int)) (by decide) rfl (Nat.le_of_ble_eq_true rfl) ?_
  intro p e s m below meth c ls C hw hT hS hl
  obtain ⟨hx, hb, hr, hml, hown, hts, hlk⟩ := C
  have hl : lv_has ls 5 [(0, .long x), (2, .int k)] := hl
  refine lv_iload_n hx hb dX2_bitAt_0 rfl (lv_at hl 1 rfl) ?_
  refine lv_istore_n (lv' := [(3, .int k), (0, .long x), (2, .int k)]) hx hb dX2_bitAt_1 rfl hl (by decide) rfl (fun ls hl => ?_)
  refine lv_iconst (v := nI 0) hx hb dX2_bitAt_2 (by decide) ?_
  refine lv_istore (lv' := [(4, .int (nI 0)), (3, .int k), (0, .long x), (2, .int k)]) hx hb dX2_bitAt_3 hl (by decide) rfl (fun ls hl => ?_)
  have LOOP : ∀ (n b : Nat) (lf : Int32) (H : Heap) (locs : List Loc) (ls : Array Slot), b + n = 64 → (baF x n b lf = baF x 64 0 k) → wdM G S H s → va_S (g_A G) s.heap H locs → lv_has ls 5 [(4, .int (nI b)), (3, .int lf), (0, .long x), (2, .int k)] → W p l e ({ frames := 0, cells := 0, slots := 0, locals := 0 } : Room) s m ([.long x, .int k] : List Value).toArray below meth c H locs 0 0 (MQ below (Qi G (baF x 64 0 k) S) ([.long x, .int k] : List Value).toArray s ({ frames := 0, cells := 0, slots := 0, locals := 0 } : Room).cells ({ frames := 0, cells := 0, slots := 0, locals := 0 } : Room).slots (g_A G)) (F0 m 5 ls []) := by
    intro n
    induction n with
    | zero =>
      intro b lf H locs ls hn hq hw hS hl
      obtain rfl : b = 64 := by omega
      refine lv_iload hx hb dX2_bitAt_5 (lv_at hl 0 rfl) ?_
      refine lv_bipush (v := nI 64) hx hb dX2_bitAt_7 (by decide) ?_
      refine lv_icmp_ge (tgt := 39) hx hb dX2_bitAt_9 (by decide) (fun _ => ?_) (fun q => absurd (by decide) q)
      refine lv_iconst (v := nI 0) hx hb dX2_bitAt_39 (by decide) ?_
      exact ri hx hb hlk hr hw hS (by rw [← hq]; rfl) (vp_nar_int _) (Nat.le_of_ble_eq_true rfl) (Nat.le_of_ble_eq_true rfl) dX2_bitAt_40
    | succ n ih =>
      intro b lf H locs ls hn hq hw hS hl
      have hi : b < 64 := by omega
      refine lv_iload hx hb dX2_bitAt_5 (lv_at hl 0 rfl) ?_
      refine lv_bipush (v := nI 64) hx hb dX2_bitAt_7 (by decide) ?_
      refine lv_icmp_ge (tgt := 39) hx hb dX2_bitAt_9 (by decide) (fun q => absurd q (nI_ge hi (by decide))) (fun _ => ?_)
      refine lv_lload_n hx hb dX2_bitAt_12 rfl (lv_at hl 2 rfl) ?_
      refine lv_iload hx hb dX2_bitAt_13 (lv_at hl 0 rfl) ?_
      refine lv_lushr hx hb dX2_bitAt_15 rfl ?_
      refine lv_lconst (v := 1) hx hb dX2_bitAt_16 (by decide) ?_
      refine lv_land hx hb dX2_bitAt_17 ?_
      refine lv_lconst (v := 0) hx hb dX2_bitAt_18 (by decide) ?_
      refine lc_eq (x := ((x.toUInt64 >>> ((nI b).toInt64.toUInt64 &&& Int64.toUInt64 63)).toInt64) &&& 1) (y := 0) (tgt := 33) hx hb dX2_bitAt_19 dX2_bitAt_20 (by decide) (fun h3 => ?_) (fun h3 => ?_)
      · skip
        have h3 := (tb_0 x (by omega)).mp h3
        refine lv_iinc (v := nI (b + 1)) (lv' := [(4, .int (nI (b + 1))), (3, .int lf), (0, .long x), (2, .int k)]) hx hb dX2_bitAt_33 hl (k := 0) rfl (nI_add b 1) (by decide) rfl (fun ls hl => ?_)
        refine lv_goto (tgt := 5) hx hb dX2_bitAt_36 (by decide) ?_
        exact ih (b + 1) lf H locs ls (by omega) (by rw [← hq]; simp [baF, h3]) hw hS (lv_sub hl [0, 1, 2, 3] rfl)
      · skip
        have h3 := (tb_1 x (by omega)).mp h3
        refine lv_iload_n hx hb dX2_bitAt_23 rfl (lv_at hl 1 rfl) ?_
        refine lv_if_ne (tgt := 30) hx hb dX2_bitAt_24 (by decide) (fun h4 => ?_) (fun h4 => ?_)
        · skip
          refine lv_iinc (v := lf + (-1)) (lv' := [(3, .int (lf + (-1))), (4, .int (nI b)), (0, .long x), (2, .int k)]) hx hb dX2_bitAt_30 hl (k := 1) rfl rfl (by decide) rfl (fun ls hl => ?_)
          refine lv_iinc (v := nI (b + 1)) (lv' := [(4, .int (nI (b + 1))), (3, .int (lf + (-1))), (0, .long x), (2, .int k)]) hx hb dX2_bitAt_33 hl (k := 1) rfl (nI_add b 1) (by decide) rfl (fun ls hl => ?_)
          refine lv_goto (tgt := 5) hx hb dX2_bitAt_36 (by decide) ?_
          exact ih (b + 1) (lf + (-1)) H locs ls (by omega) (by rw [← hq]; simp [baF, h3, h4]) hw hS (lv_sub hl [0, 1, 2, 3] rfl)
        · skip
          refine lv_iload hx hb dX2_bitAt_27 (lv_at hl 0 rfl) ?_
          exact ri hx hb hlk hr hw hS (by rw [← hq]; simp [baF, h3, h4]) (vp_nar_int _) (Nat.le_of_ble_eq_true rfl) (Nat.le_of_ble_eq_true rfl) dX2_bitAt_29
  exact LOOP 64 0 k _ _ ls (by omega) rfl hw hS (lv_sub hl [0, 1, 2, 3] rfl)
set_option maxRecDepth 100000 in
set_option maxHeartbeats 4000000 in
theorem c_codeAt (l : Launch) (G : Gm) (S : St) (i : Nat) (hi : i < 4) (k : Int32) : Pi l yX2_codeAt wsX2_codeAt ({ frames := 1, cells := 0, slots := 0, locals := 24 } : Room) [.ref (g_ad G 5 i), .int k] G S (caF (pwS S i) 4096 0 k) S := by
  refine ent (cc := cX2_codeAt) (maxL := 5) (ret := (some .int)) (by decide) rfl (Nat.le_of_ble_eq_true rfl) ?_
  intro p e s m below meth c ls C hw hT hS hl
  obtain ⟨hx, hb, hr, hml, hown, hts, hlk⟩ := C
  have hl : lv_has ls 5 [(0, .ref (g_ad G 5 i)), (1, .int k)] := hl
  refine lv_iload_n hx hb dX2_codeAt_0 rfl (lv_at hl 1 rfl) ?_
  refine lv_istore_n (lv' := [(2, .int k), (0, .ref (g_ad G 5 i)), (1, .int k)]) hx hb dX2_codeAt_1 rfl hl (by decide) rfl (fun ls hl => ?_)
  refine lv_iconst (v := nI 0) hx hb dX2_codeAt_2 (by decide) ?_
  refine lv_istore_n (lv' := [(3, .int (nI 0)), (2, .int k), (0, .ref (g_ad G 5 i)), (1, .int k)]) hx hb dX2_codeAt_3 rfl hl (by decide) rfl (fun ls hl => ?_)
  have LOOP : ∀ (n b : Nat) (lf : Int32) (H : Heap) (locs : List Loc) (ls : Array Slot), b + n = 4096 → (caF (pwS S i) n b lf = caF (pwS S i) 4096 0 k) → wdM G S H s → va_S (g_A G) s.heap H locs → lv_has ls 5 [(3, .int (nI b)), (2, .int lf), (0, .ref (g_ad G 5 i)), (1, .int k)] → W p l e ({ frames := 1, cells := 0, slots := 0, locals := 24 } : Room) s m ([.ref (g_ad G 5 i), .int k] : List Value).toArray below meth c H locs 0 0 (MQ below (Qi G (caF (pwS S i) 4096 0 k) S) ([.ref (g_ad G 5 i), .int k] : List Value).toArray s ({ frames := 1, cells := 0, slots := 0, locals := 24 } : Room).cells ({ frames := 1, cells := 0, slots := 0, locals := 24 } : Room).slots (g_A G)) (F0 m 4 ls []) := by
    intro n
    induction n with
    | zero =>
      intro b lf H locs ls hn hq hw hS hl
      obtain rfl : b = 4096 := by omega
      refine lv_iload_n hx hb dX2_codeAt_4 rfl (lv_at hl 0 rfl) ?_
      refine lv_sipush (v := nI 4096) hx hb dX2_codeAt_5 (by decide) ?_
      refine lv_icmp_ge (tgt := 55) hx hb dX2_codeAt_8 (by decide) (fun _ => ?_) (fun q => absurd (by decide) q)
      refine lv_iconst (v := (-1)) hx hb dX2_codeAt_55 (by decide) ?_
      exact ri hx hb hlk hr hw hS (by rw [← hq]; rfl) (vp_nar_int _) (Nat.le_of_ble_eq_true rfl) (Nat.le_of_ble_eq_true rfl) dX2_codeAt_56
    | succ n ih =>
      intro b lf H locs ls hn hq hw hS hl
      have hb9 : b < 4096 := by omega
      refine lv_iload_n hx hb dX2_codeAt_4 rfl (lv_at hl 0 rfl) ?_
      refine lv_sipush (v := nI 4096) hx hb dX2_codeAt_5 (by decide) ?_
      refine lv_icmp_ge (tgt := 55) hx hb dX2_codeAt_8 (by decide) (fun q => absurd q (nI_ge hb9 (by decide))) (fun _ => ?_)
      refine lv_aload_n hx hb dX2_codeAt_11 rfl (lv_at hl 2 rfl) ?_
      refine gf hx hb hown hts hw hT 5 i (show i < 4 by omega) (ci := 2) rfl rfl (fun _ h => List.mem_cons_of_mem _ (List.mem_append_right _ h)) 0 (by decide) (List.mem_of_getElem? (i := 1) rfl) (v := .ref (g_ad G 6 i)) rfl dX2_codeAt_12 ?_
      refine lv_iload_n hx hb dX2_codeAt_15 rfl (lv_at hl 0 rfl) ?_
      refine all hx hb hw hT 6 i (show i < 4 by omega) (f := pwS S i) rfl b (show b < 4096 by omega) (by decide) dX2_codeAt_16 ?_
      refine cSi ⟨hx, hb, hml, hown, hts⟩ (c_bitCount l G S (pwS S i b)) (va_cwS 1 hts gX2_codeAt_J13_bitCount_95d88 rfl rfl rfl (by decide +kernel) ⟨(Nat.le_of_ble_eq_true rfl), (Nat.le_of_ble_eq_true rfl)⟩) hw hT hS (As := [.long (pwS S i b)]) (rest := []) rfl hl.1 rfl (Nat.le_of_ble_eq_true rfl) dX2_codeAt_17 ⟨(Nat.le_of_ble_eq_true rfl), (Nat.le_of_ble_eq_true rfl)⟩ (fun H locs hw hS => ?_)
      refine lv_istore (lv' := [(4, .int (bcF (pwS S i b))), (3, .int (nI b)), (2, .int lf), (0, .ref (g_ad G 5 i)), (1, .int k)]) hx hb dX2_codeAt_20 hl (by decide) rfl (fun ls hl => ?_)
      refine lv_iload_n hx hb dX2_codeAt_22 rfl (lv_at hl 2 rfl) ?_
      refine lv_iload hx hb dX2_codeAt_23 (lv_at hl 0 rfl) ?_
      refine lv_icmp_ge (tgt := 44) hx hb dX2_codeAt_25 (by decide) (fun h3 => ?_) (fun h3 => ?_)
      · skip
        have h3 : ¬ lf < bcF (pwS S i b) := Int32.not_lt.mpr h3
        refine lv_iload_n hx hb dX2_codeAt_44 rfl (lv_at hl 2 rfl) ?_
        refine lv_iload hx hb dX2_codeAt_45 (lv_at hl 0 rfl) ?_
        refine lv_isub hx hb dX2_codeAt_47 ?_
        refine lv_istore_n (lv' := [(2, .int (lf - (bcF (pwS S i b)))), (4, .int (bcF (pwS S i b))), (3, .int (nI b)), (0, .ref (g_ad G 5 i)), (1, .int k)]) hx hb dX2_codeAt_48 rfl hl (by decide) rfl (fun ls hl => ?_)
        refine lv_iinc (v := nI (b + 1)) (lv' := [(3, .int (nI (b + 1))), (2, .int (lf - (bcF (pwS S i b)))), (4, .int (bcF (pwS S i b))), (0, .ref (g_ad G 5 i)), (1, .int k)]) hx hb dX2_codeAt_49 hl (k := 2) rfl (nI_add b 1) (by decide) rfl (fun ls hl => ?_)
        refine lv_goto (tgt := 4) hx hb dX2_codeAt_52 (by decide) ?_
        exact ih (b + 1) (lf - (bcF (pwS S i b))) H locs ls (by omega) (by rw [← hq]; simp [caF, h3]) hw hS (lv_sub hl [0, 1, 3, 4] rfl)
      · skip
        have h3 : lf < bcF (pwS S i b) := Int32.not_le.mp h3
        refine lv_iload_n hx hb dX2_codeAt_28 rfl (lv_at hl 1 rfl) ?_
        refine lv_bipush (v := nI 64) hx hb dX2_codeAt_29 (by decide) ?_
        refine lv_imul hx hb dX2_codeAt_31 ?_
        refine top_i (y := nI (b * 64)) (pk_mul b 64) ?_
        refine lv_aload_n hx hb dX2_codeAt_32 rfl (lv_at hl 3 rfl) ?_
        refine gf hx hb hown hts hw hT 5 i (show i < 4 by omega) (ci := 2) rfl rfl (fun _ h => List.mem_cons_of_mem _ (List.mem_append_right _ h)) 0 (by decide) (List.mem_of_getElem? (i := 1) rfl) (v := .ref (g_ad G 6 i)) rfl dX2_codeAt_33 ?_
        refine lv_iload_n hx hb dX2_codeAt_36 rfl (lv_at hl 1 rfl) ?_
        refine all hx hb hw hT 6 i (show i < 4 by omega) (f := pwS S i) rfl b (show b < 4096 by omega) (by decide) dX2_codeAt_37 ?_
        refine lv_iload_n hx hb dX2_codeAt_38 rfl (lv_at hl 2 rfl) ?_
        refine cSi ⟨hx, hb, hml, hown, hts⟩ (c_bitAt l G S (pwS S i b) lf) (va_cwS 2 hts gX2_codeAt_X2_bitAt rfl rfl rfl (by decide +kernel) ⟨(Nat.le_of_ble_eq_true rfl), (Nat.le_of_ble_eq_true rfl)⟩) hw hT hS (As := [.long (pwS S i b), .int lf]) (rest := [.int (nI (b * 64))]) rfl hl.1 rfl (Nat.le_of_ble_eq_true rfl) dX2_codeAt_39 ⟨(Nat.le_of_ble_eq_true rfl), (Nat.le_of_ble_eq_true rfl)⟩ (fun H locs hw hS => ?_)
        refine lv_iadd hx hb dX2_codeAt_42 ?_
        exact ri hx hb hlk hr hw hS (by rw [← hq]; simp [caF, h3]) (vp_nar_int _) (Nat.le_of_ble_eq_true rfl) (Nat.le_of_ble_eq_true rfl) dX2_codeAt_43
  exact LOOP 4096 0 k _ _ ls (by omega) rfl hw hS (lv_sub hl [0, 1, 2, 3] rfl)
theorem df_0 (a b o : Nat → Int64) : dfR a b o 0 = o := by funext k; simp [dfR]
theorem df_s (a b o : Nat → Int64) (n : Nat) : va_up (dfR a b o n) n (dfW a b n) = dfR a b o (n + 1) := by
  funext k
  by_cases h : k = n
  · subst h; simp [va_up, dfR]
  · by_cases h2 : k < n
    · simp [va_up, dfR, h, h2, Nat.lt_succ_of_lt h2]
    · have h3 : ¬ k < n + 1 := by omega
      simp [va_up, dfR, h, h2, h3]
theorem pw_self (S : St) (i : Nat) : pwU S (va_up (pwS S) i (pwS S i)) = S := by
  have : va_up (pwS S) i (pwS S i) = pwS S := by funext k; by_cases h : k = i <;> simp [va_up, h]
  rw [this]; rfl
set_option maxRecDepth 100000 in
set_option maxHeartbeats 4000000 in
theorem c_diff (l : Launch) (G : Gm) (S : St) (i : Nat) (hi : i < 4) (a : Nat) (ha : a < 4) (b : Nat) (hb4 : b < 4) (hia : a ≠ i) (hib : b ≠ i) : Pv l yX2_setToDifference wsX2_setToDifference ({ frames := 1, cells := 0, slots := 0, locals := 21 } : Room) [.ref (g_ad G 5 i), .ref (g_ad G 5 a), .ref (g_ad G 5 b)] G S (dfS S i a b 4096) := by
  refine ent (cc := cX2_setToDifference) (maxL := 4) (ret := none) (by decide) rfl (Nat.le_of_ble_eq_true rfl) ?_
  intro p e s m below meth c ls C hw hT hS hl
  obtain ⟨hx, hb, hr, hml, hown, hts, hlk⟩ := C
  have hl : lv_has ls 4 [(0, .ref (g_ad G 5 i)), (1, .ref (g_ad G 5 a)), (2, .ref (g_ad G 5 b))] := hl
  refine lv_aload_n hx hb dX2_setToDifference_0 rfl (lv_at hl 0 rfl) ?_
  refine lv_iconst (v := nI 0) hx hb dX2_setToDifference_1 (by decide) ?_
  refine pf (S' := (psU S (va_up (psS S) i (nI 0)))) hx hb hown hts hw hT hS 5 i (show i < 4 by omega) (ci := 2) rfl rfl (fun _ h => List.mem_cons_of_mem _ (List.mem_append_right _ h)) tyX2 tyX2_ok nmX2 1 (by decide) (List.mem_of_getElem? (i := 1) rfl) rfl (ty := .int) (by decide +kernel) (vp_nar_int _) rfl (Nat.le_of_ble_eq_true rfl) (mup_ps G S i (nI 0)) dX2_setToDifference_2 (fun H locs hw hS => ?_)
  refine lv_iconst (v := nI 0) hx hb dX2_setToDifference_5 (by decide) ?_
  refine lv_istore_n (lv' := [(3, .int (nI 0)), (0, .ref (g_ad G 5 i)), (1, .ref (g_ad G 5 a)), (2, .ref (g_ad G 5 b))]) hx hb dX2_setToDifference_6 rfl hl (by decide) rfl (fun ls hl => ?_)
  have hw : wdM G (dfS S i a b 0) H s := by
    unfold dfS
    rw [df_0, pw_self]
    exact hw
  have LOOP : ∀ (n k : Nat)  (H : Heap) (locs : List Loc) (ls : Array Slot), k + n = 4096 → wdM G (dfS S i a b k) H s → va_S (g_A G) s.heap H locs → lv_has ls 4 [(3, .int (nI k)), (0, .ref (g_ad G 5 i)), (1, .ref (g_ad G 5 a)), (2, .ref (g_ad G 5 b))] → W p l e ({ frames := 1, cells := 0, slots := 0, locals := 21 } : Room) s m ([.ref (g_ad G 5 i), .ref (g_ad G 5 a), .ref (g_ad G 5 b)] : List Value).toArray below meth c H locs 0 0 (MQ below (Qv G (dfS S i a b 4096)) ([.ref (g_ad G 5 i), .ref (g_ad G 5 a), .ref (g_ad G 5 b)] : List Value).toArray s ({ frames := 1, cells := 0, slots := 0, locals := 21 } : Room).cells ({ frames := 1, cells := 0, slots := 0, locals := 21 } : Room).slots (g_A G)) (F0 m 7 ls []) := by
    intro n
    induction n with
    | zero =>
      intro k  H locs ls hn  hw hS hl
      obtain rfl : k = 4096 := by omega
      refine lv_iload_n hx hb dX2_setToDifference_7 rfl (lv_at hl 0 rfl) ?_
      refine lv_sipush (v := nI 4096) hx hb dX2_setToDifference_8 (by decide) ?_
      refine lv_icmp_ge (tgt := 61) hx hb dX2_setToDifference_11 (by decide) (fun _ => ?_) (fun q => absurd (by decide) q)
      exact rv hx hb hlk hr hw hS  (Nat.le_of_ble_eq_true rfl) (Nat.le_of_ble_eq_true rfl) dX2_setToDifference_61
    | succ n ih =>
      intro k  H locs ls hn  hw hS hl
      have hk : k < 4096 := by omega
      have ra : pwS (dfS S i a b k) a = pwS S a := by unfold dfS; exact va_up_ne _ _ hia
      have rb : pwS (dfS S i a b k) b = pwS S b := by unfold dfS; exact va_up_ne _ _ hib
      have ri9 : pwS (dfS S i a b k) i = dfR (pwS S a) (pwS S b) (pwS S i) k := by unfold dfS; exact va_up_self _ _ _
      have rs : psS (dfS S i a b k) i = dfC (pwS S a) (pwS S b) k := by unfold dfS; exact va_up_self _ _ _
      refine lv_iload_n hx hb dX2_setToDifference_7 rfl (lv_at hl 0 rfl) ?_
      refine lv_sipush (v := nI 4096) hx hb dX2_setToDifference_8 (by decide) ?_
      refine lv_icmp_ge (tgt := 61) hx hb dX2_setToDifference_11 (by decide) (fun q => absurd q (nI_ge hk (by decide))) (fun _ => ?_)
      refine lv_aload_n hx hb dX2_setToDifference_14 rfl (lv_at hl 1 rfl) ?_
      refine gf hx hb hown hts hw hT 5 i (show i < 4 by omega) (ci := 2) rfl rfl (fun _ h => List.mem_cons_of_mem _ (List.mem_append_right _ h)) 0 (by decide) (List.mem_of_getElem? (i := 2) rfl) (v := .ref (g_ad G 6 i)) rfl dX2_setToDifference_15 ?_
      refine lv_iload_n hx hb dX2_setToDifference_18 rfl (lv_at hl 0 rfl) ?_
      refine lv_aload_n hx hb dX2_setToDifference_19 rfl (lv_at hl 2 rfl) ?_
      refine gf hx hb hown hts hw hT 5 a (show a < 4 by omega) (ci := 2) rfl rfl (fun _ h => List.mem_cons_of_mem _ (List.mem_append_right _ h)) 0 (by decide) (List.mem_of_getElem? (i := 2) rfl) (v := .ref (g_ad G 6 a)) rfl dX2_setToDifference_20 ?_
      refine lv_iload_n hx hb dX2_setToDifference_23 rfl (lv_at hl 0 rfl) ?_
      refine all hx hb hw hT 6 a (show a < 4 by omega) (f := pwS (dfS S i a b k) a) rfl k (show k < 4096 by omega) (by decide) dX2_setToDifference_24 ?_
      refine lv_aload_n hx hb dX2_setToDifference_25 rfl (lv_at hl 3 rfl) ?_
      refine gf hx hb hown hts hw hT 5 b (show b < 4 by omega) (ci := 2) rfl rfl (fun _ h => List.mem_cons_of_mem _ (List.mem_append_right _ h)) 0 (by decide) (List.mem_of_getElem? (i := 2) rfl) (v := .ref (g_ad G 6 b)) rfl dX2_setToDifference_26 ?_
      refine lv_iload_n hx hb dX2_setToDifference_29 rfl (lv_at hl 0 rfl) ?_
      refine all hx hb hw hT 6 b (show b < 4 by omega) (f := pwS (dfS S i a b k) b) rfl k (show k < 4096 by omega) (by decide) dX2_setToDifference_30 ?_
      refine lv_ldc2 (v := -1) hx hb hown (hts _ (List.mem_of_getElem? (i := 3) rfl)) dX2_setToDifference_31 ?_
      refine lv_lxor hx hb dX2_setToDifference_34 ?_
      refine lv_land hx hb dX2_setToDifference_35 ?_
      refine als (S' := (pwU (dfS S i a b k) (va_up (pwS (dfS S i a b k)) i (va_up (pwS (dfS S i a b k) i) k ((pwS (dfS S i a b k) a k) &&& ((pwS (dfS S i a b k) b k) ^^^ ((-1)))))))) hx hb hw hT hS 6 i (show i < 4 by omega) (f := pwS (dfS S i a b k) i) rfl k (show k < 4096 by omega) (by decide) (mup_pw G (dfS S i a b k) i (va_up (pwS (dfS S i a b k) i) k ((pwS (dfS S i a b k) a k) &&& ((pwS (dfS S i a b k) b k) ^^^ ((-1)))))) dX2_setToDifference_36 (fun H locs hw hS => ?_)
      refine lv_aload_n hx hb dX2_setToDifference_37 rfl (lv_at hl 1 rfl) ?_
      refine lv_dup hx hb dX2_setToDifference_38 rfl ?_
      refine gf hx hb hown hts hw hT 5 i (show i < 4 by omega) (ci := 2) rfl rfl (fun _ h => List.mem_cons_of_mem _ (List.mem_append_right _ h)) 1 (by decide) (List.mem_of_getElem? (i := 1) rfl) (v := .int (psS (dfS S i a b k) i)) rfl dX2_setToDifference_39 ?_
      refine lv_aload_n hx hb dX2_setToDifference_42 rfl (lv_at hl 1 rfl) ?_
      refine gf hx hb hown hts hw hT 5 i (show i < 4 by omega) (ci := 2) rfl rfl (fun _ h => List.mem_cons_of_mem _ (List.mem_append_right _ h)) 0 (by decide) (List.mem_of_getElem? (i := 2) rfl) (v := .ref (g_ad G 6 i)) rfl dX2_setToDifference_43 ?_
      refine lv_iload_n hx hb dX2_setToDifference_46 rfl (lv_at hl 0 rfl) ?_
      refine all hx hb hw hT 6 i (show i < 4 by omega) (f := va_up (pwS (dfS S i a b k) i) k ((pwS (dfS S i a b k) a k) &&& ((pwS (dfS S i a b k) b k) ^^^ ((-1))))) (mup_pw G (dfS S i a b k) i _).1 k (show k < 4096 by omega) (by decide) dX2_setToDifference_47 ?_
      refine top_l (y := (pwS (dfS S i a b k) a k) &&& ((pwS (dfS S i a b k) b k) ^^^ ((-1)))) (va_up_self _ _ _) ?_
      refine cSi ⟨hx, hb, hml, hown, hts⟩ (c_bitCount l G (pwU (dfS S i a b k) (va_up (pwS (dfS S i a b k)) i (va_up (pwS (dfS S i a b k) i) k ((pwS (dfS S i a b k) a k) &&& ((pwS (dfS S i a b k) b k) ^^^ ((-1))))))) ((pwS (dfS S i a b k) a k) &&& ((pwS (dfS S i a b k) b k) ^^^ ((-1))))) (va_cwS 1 hts gX2_setToDifference_J13_bitCount_95d88 rfl rfl rfl (by decide +kernel) ⟨(Nat.le_of_ble_eq_true rfl), (Nat.le_of_ble_eq_true rfl)⟩) hw hT hS (As := [.long ((pwS (dfS S i a b k) a k) &&& ((pwS (dfS S i a b k) b k) ^^^ ((-1))))]) (rest := [.int (psS (dfS S i a b k) i), .ref (g_ad G 5 i)]) rfl hl.1 rfl (Nat.le_of_ble_eq_true rfl) dX2_setToDifference_48 ⟨(Nat.le_of_ble_eq_true rfl), (Nat.le_of_ble_eq_true rfl)⟩ (fun H locs hw hS => ?_)
      refine lv_iadd hx hb dX2_setToDifference_51 ?_
      refine pf (S' := (psU (pwU (dfS S i a b k) (va_up (pwS (dfS S i a b k)) i (va_up (pwS (dfS S i a b k) i) k ((pwS (dfS S i a b k) a k) &&& ((pwS (dfS S i a b k) b k) ^^^ ((-1))))))) (va_up (psS (pwU (dfS S i a b k) (va_up (pwS (dfS S i a b k)) i (va_up (pwS (dfS S i a b k) i) k ((pwS (dfS S i a b k) a k) &&& ((pwS (dfS S i a b k) b k) ^^^ ((-1)))))))) i ((psS (dfS S i a b k) i) + (bcF ((pwS (dfS S i a b k) a k) &&& ((pwS (dfS S i a b k) b k) ^^^ ((-1))))))))) hx hb hown hts hw hT hS 5 i (show i < 4 by omega) (ci := 2) rfl rfl (fun _ h => List.mem_cons_of_mem _ (List.mem_append_right _ h)) tyX2 tyX2_ok nmX2 1 (by decide) (List.mem_of_getElem? (i := 1) rfl) rfl (ty := .int) (by decide +kernel) (vp_nar_int _) rfl (Nat.le_of_ble_eq_true rfl) (mup_ps G (pwU (dfS S i a b k) (va_up (pwS (dfS S i a b k)) i (va_up (pwS (dfS S i a b k) i) k ((pwS (dfS S i a b k) a k) &&& ((pwS (dfS S i a b k) b k) ^^^ ((-1))))))) i ((psS (dfS S i a b k) i) + (bcF ((pwS (dfS S i a b k) a k) &&& ((pwS (dfS S i a b k) b k) ^^^ ((-1))))))) dX2_setToDifference_52 (fun H locs hw hS => ?_)
      refine lv_iinc (v := nI (k + 1)) (lv' := [(3, .int (nI (k + 1))), (0, .ref (g_ad G 5 i)), (1, .ref (g_ad G 5 a)), (2, .ref (g_ad G 5 b))]) hx hb dX2_setToDifference_55 hl (k := 0) rfl (nI_add k 1) (by decide) rfl (fun ls hl => ?_)
      refine lv_goto (tgt := 7) hx hb dX2_setToDifference_58 (by decide) ?_
      have hw : wdM G (dfS S i a b (k + 1)) H s := by
        have e9 : (psU (pwU (dfS S i a b k) (va_up (pwS (dfS S i a b k)) i (va_up (pwS (dfS S i a b k) i) k ((pwS (dfS S i a b k) a k) &&& ((pwS (dfS S i a b k) b k) ^^^ ((-1))))))) (va_up (psS (pwU (dfS S i a b k) (va_up (pwS (dfS S i a b k)) i (va_up (pwS (dfS S i a b k) i) k ((pwS (dfS S i a b k) a k) &&& ((pwS (dfS S i a b k) b k) ^^^ ((-1)))))))) i ((psS (dfS S i a b k) i) + (bcF ((pwS (dfS S i a b k) a k) &&& ((pwS (dfS S i a b k) b k) ^^^ ((-1)))))))) = dfS S i a b (k + 1) := by
          unfold dfS
          simp only [pw_pw, ps_pw, ps_ps, pw_ps, va_up_self]
          show psU (pwU S _) _ = psU (pwU S _) _
          congr 1
          · congr 1
            funext q
            by_cases h : q = i
            · subst h; simp only [va_up_self]; rw [← df_s]; congr 1; simp only [va_up_ne _ _ hia, va_up_ne _ _ hib]; rfl
            · simp only [va_up_ne _ _ h]
          · funext q
            by_cases h : q = i
            · subst h; simp only [va_up_self, va_up_ne _ _ hia, va_up_ne _ _ hib]; rfl
            · simp only [va_up_ne _ _ h]
        rw [← e9]
        exact hw
      exact ih (k + 1)  H locs ls (by omega)  hw hS (lv_sub hl [0, 1, 2, 3] rfl)
  exact LOOP 4096 0  _ _ ls (by omega)  hw hS (lv_sub hl [0, 1, 2, 3] rfl)
end
section
/-! Body -/
set_option maxRecDepth 100000 in
set_option maxHeartbeats 4000000 in
theorem c_leave (l : Launch) (G : Gm) (S : St) (k : Nat) (hk : k < 512) : Pv l yX0_leave wsX0_leave ({ frames := 0, cells := 0, slots := 0, locals := 0 } : Room) [.ref (g_ad G 4 k)] G S (lvS S k) := by
  refine ent (cc := cX0_leave) (maxL := 1) (ret := none) (by decide) rfl (Nat.le_of_ble_eq_true rfl) ?_
  intro p e s m below meth c ls C hw hT hS hl
  obtain ⟨hx, hb, hr, hml, hown, hts, hlk⟩ := C
  have hl : lv_has ls 1 [(0, .ref (g_ad G 4 k))] := hl
  refine lv_aload_n hx hb dX0_leave_0 rfl (lv_at hl 0 rfl) ?_
  refine lv_iconst (v := nI 0) hx hb dX0_leave_1 (by decide) ?_
  refine top_i (y := bI false) (by decide) ?_
  refine pf (S' := (thU S (va_up (thS S) k false))) hx hb hown hts hw hT hS 4 k (show k < 512 by omega) (ci := 0) rfl rfl (fun _ h => List.mem_cons_of_mem _ (List.mem_append_right _ h)) tyX0 tyX0_ok nmX0 4 (by decide) (List.mem_of_getElem? (i := 1) rfl) rfl (ty := .boolean) (by decide +kernel) (bI_nar _) (bI_fit _) (Nat.le_of_ble_eq_true rfl) (mup_th G S k false) dX0_leave_2 (fun H locs hw hS => ?_)
  refine lv_aload_n hx hb dX0_leave_5 rfl (lv_at hl 0 rfl) ?_
  refine lv_iconst (v := nI 0) hx hb dX0_leave_6 (by decide) ?_
  refine top_i (y := bI false) (by decide) ?_
  refine pf (S' := (tcU (thU S (va_up (thS S) k false)) (va_up (tcS (thU S (va_up (thS S) k false))) k false))) hx hb hown hts hw hT hS 4 k (show k < 512 by omega) (ci := 0) rfl rfl (fun _ h => List.mem_cons_of_mem _ (List.mem_append_right _ h)) tyX0 tyX0_ok nmX0 5 (by decide) (List.mem_of_getElem? (i := 2) rfl) rfl (ty := .boolean) (by decide +kernel) (bI_nar _) (bI_fit _) (Nat.le_of_ble_eq_true rfl) (mup_tc G (thU S (va_up (thS S) k false)) k false) dX0_leave_7 (fun H locs hw hS => ?_)
  exact rv hx hb hlk hr hw hS  (Nat.le_of_ble_eq_true rfl) (Nat.le_of_ble_eq_true rfl) dX0_leave_10
set_option maxRecDepth 100000 in
set_option maxHeartbeats 4000000 in
theorem c_setFilter (l : Launch) (G : Gm) (S : St) (k : Nat) (hk : k < 512) (g9 m9 : Int32) : Pv l yX0_setFilter wsX0_setFilter ({ frames := 0, cells := 0, slots := 0, locals := 0 } : Room) [.ref (g_ad G 4 k), .int g9, .int m9] G S (flS S k g9 m9) := by
  refine ent (cc := cX0_setFilter) (maxL := 3) (ret := none) (by decide) rfl (Nat.le_of_ble_eq_true rfl) ?_
  intro p e s m below meth c ls C hw hT hS hl
  obtain ⟨hx, hb, hr, hml, hown, hts, hlk⟩ := C
  have hl : lv_has ls 3 [(0, .ref (g_ad G 4 k)), (1, .int g9), (2, .int m9)] := hl
  refine lv_aload_n hx hb dX0_setFilter_0 rfl (lv_at hl 0 rfl) ?_
  refine lv_iload_n hx hb dX0_setFilter_1 rfl (lv_at hl 1 rfl) ?_
  refine pf (S' := (grU S (va_up (grS S) k g9))) hx hb hown hts hw hT hS 4 k (show k < 512 by omega) (ci := 0) rfl rfl (fun _ h => List.mem_cons_of_mem _ (List.mem_append_right _ h)) tyX0 tyX0_ok nmX0 2 (by decide) (List.mem_of_getElem? (i := 1) rfl) rfl (ty := .int) (by decide +kernel) (vp_nar_int _) rfl (Nat.le_of_ble_eq_true rfl) (mup_gr G S k g9) dX0_setFilter_2 (fun H locs hw hS => ?_)
  refine lv_aload_n hx hb dX0_setFilter_5 rfl (lv_at hl 0 rfl) ?_
  refine lv_iload_n hx hb dX0_setFilter_6 rfl (lv_at hl 2 rfl) ?_
  refine pf (S' := (mkU (grU S (va_up (grS S) k g9)) (va_up (mkS (grU S (va_up (grS S) k g9))) k m9))) hx hb hown hts hw hT hS 4 k (show k < 512 by omega) (ci := 0) rfl rfl (fun _ h => List.mem_cons_of_mem _ (List.mem_append_right _ h)) tyX0 tyX0_ok nmX0 3 (by decide) (List.mem_of_getElem? (i := 2) rfl) rfl (ty := .int) (by decide +kernel) (vp_nar_int _) rfl (Nat.le_of_ble_eq_true rfl) (mup_mk G (grU S (va_up (grS S) k g9)) k m9) dX0_setFilter_7 (fun H locs hw hS => ?_)
  refine lv_aload_n hx hb dX0_setFilter_10 rfl (lv_at hl 0 rfl) ?_
  refine lv_iconst (v := nI 1) hx hb dX0_setFilter_11 (by decide) ?_
  refine top_i (y := bI true) (by decide) ?_
  refine pf (S' := (tcU (mkU (grU S (va_up (grS S) k g9)) (va_up (mkS (grU S (va_up (grS S) k g9))) k m9)) (va_up (tcS (mkU (grU S (va_up (grS S) k g9)) (va_up (mkS (grU S (va_up (grS S) k g9))) k m9))) k true))) hx hb hown hts hw hT hS 4 k (show k < 512 by omega) (ci := 0) rfl rfl (fun _ h => List.mem_cons_of_mem _ (List.mem_append_right _ h)) tyX0 tyX0_ok nmX0 5 (by decide) (List.mem_of_getElem? (i := 3) rfl) rfl (ty := .boolean) (by decide +kernel) (bI_nar _) (bI_fit _) (Nat.le_of_ble_eq_true rfl) (mup_tc G (mkU (grU S (va_up (grS S) k g9)) (va_up (mkS (grU S (va_up (grS S) k g9))) k m9)) k true) dX0_setFilter_12 (fun H locs hw hS => ?_)
  exact rv hx hb hlk hr hw hS  (Nat.le_of_ble_eq_true rfl) (Nat.le_of_ble_eq_true rfl) dX0_setFilter_15
set_option maxRecDepth 100000 in
set_option maxHeartbeats 4000000 in
theorem c_appear (l : Launch) (G : Gm) (S : St) (k : Nat) (hk : k < 512) (a : Nat) (ha : a < 1026) (h2 : a ≠ 2 * k + 2) (h3 : a ≠ 2 * k + 3) (g9 m9 : Int32) (hn : wdN (bxS (cpF6 (cpF6 (thU S (va_up (thS S) k true)) (2 * k + 2) a) (2 * k + 3) a) (2 * k + 3)) FP.fconst0 FP.fconst0 FP.fconst0) : Pv l yX0_appear wsX0_appear ({ frames := 2, cells := 0, slots := 0, locals := 81 } : Room) [.ref (g_ad G 4 k), .ref (g_ad G 1 a), .int g9, .int m9] G S (apS S k a g9 m9) := by
  refine ent (cc := cX0_appear) (maxL := 4) (ret := none) (by decide) rfl (Nat.le_of_ble_eq_true rfl) ?_
  intro p e s m below meth c ls C hw hT hS hl
  obtain ⟨hx, hb, hr, hml, hown, hts, hlk⟩ := C
  have hl : lv_has ls 4 [(0, .ref (g_ad G 4 k)), (1, .ref (g_ad G 1 a)), (2, .int g9), (3, .int m9)] := hl
  refine lv_aload_n hx hb dX0_appear_0 rfl (lv_at hl 0 rfl) ?_
  refine lv_iconst (v := nI 1) hx hb dX0_appear_1 (by decide) ?_
  refine top_i (y := bI true) (by decide) ?_
  refine pf (S' := (thU S (va_up (thS S) k true))) hx hb hown hts hw hT hS 4 k (show k < 512 by omega) (ci := 0) rfl rfl (fun _ h => List.mem_cons_of_mem _ (List.mem_append_left _ (List.mem_append_right _ h))) tyX0 tyX0_ok nmX0 4 (by decide) (List.mem_of_getElem? (i := 1) rfl) rfl (ty := .boolean) (by decide +kernel) (bI_nar _) (bI_fit _) (Nat.le_of_ble_eq_true rfl) (mup_th G S k true) dX0_appear_2 (fun H locs hw hS => ?_)
  refine lv_aload_n hx hb dX0_appear_5 rfl (lv_at hl 0 rfl) ?_
  refine gf hx hb hown hts hw hT 4 k (show k < 512 by omega) (ci := 0) rfl rfl (fun _ h => List.mem_cons_of_mem _ (List.mem_append_left _ (List.mem_append_right _ h))) 0 (by decide) (List.mem_of_getElem? (i := 2) rfl) (v := .ref (g_ad G 1 (2 * k + 2))) rfl dX0_appear_6 ?_
  refine lv_aload_n hx hb dX0_appear_9 rfl (lv_at hl 1 rfl) ?_
  refine cVv ⟨hx, hb, hml, hown, hts⟩ (c_copyFrom l G (thU S (va_up (thS S) k true)) (2 * k + 2) (show 2 * k + 2 < 1026 by omega) a (show a < 1026 by omega) h2) (cwV 1 hts gX0_appear_X1_copyFrom rfl rfl rfl (by decide +kernel) ⟨(Nat.le_of_ble_eq_true rfl), (Nat.le_of_ble_eq_true rfl)⟩) hw hT hS (rcv hw hT 1 (2 * k + 2) (show 2 * k + 2 < 1026 by omega) rfl rfl) (As := [.ref (g_ad G 1 a)]) (rest := []) rfl hl.1 rfl (Nat.le_of_ble_eq_true rfl) dX0_appear_10 ⟨(Nat.le_of_ble_eq_true rfl), (Nat.le_of_ble_eq_true rfl)⟩ (fun H locs hw hS => ?_)
  refine lv_aload_n hx hb dX0_appear_13 rfl (lv_at hl 0 rfl) ?_
  refine gf hx hb hown hts hw hT 4 k (show k < 512 by omega) (ci := 0) rfl rfl (fun _ h => List.mem_cons_of_mem _ (List.mem_append_left _ (List.mem_append_right _ h))) 1 (by decide) (List.mem_of_getElem? (i := 3) rfl) (v := .ref (g_ad G 1 (2 * k + 3))) rfl dX0_appear_14 ?_
  refine lv_aload_n hx hb dX0_appear_17 rfl (lv_at hl 1 rfl) ?_
  refine cVv ⟨hx, hb, hml, hown, hts⟩ (c_copyFrom l G (cpF6 (thU S (va_up (thS S) k true)) (2 * k + 2) a) (2 * k + 3) (show 2 * k + 3 < 1026 by omega) a (show a < 1026 by omega) h3) (cwV 1 hts gX0_appear_X1_copyFrom rfl rfl rfl (by decide +kernel) ⟨(Nat.le_of_ble_eq_true rfl), (Nat.le_of_ble_eq_true rfl)⟩) hw hT hS (rcv hw hT 1 (2 * k + 3) (show 2 * k + 3 < 1026 by omega) rfl rfl) (As := [.ref (g_ad G 1 a)]) (rest := []) rfl hl.1 rfl (Nat.le_of_ble_eq_true rfl) dX0_appear_18 ⟨(Nat.le_of_ble_eq_true rfl), (Nat.le_of_ble_eq_true rfl)⟩ (fun H locs hw hS => ?_)
  refine lv_aload_n hx hb dX0_appear_21 rfl (lv_at hl 0 rfl) ?_
  refine gf hx hb hown hts hw hT 4 k (show k < 512 by omega) (ci := 0) rfl rfl (fun _ h => List.mem_cons_of_mem _ (List.mem_append_left _ (List.mem_append_right _ h))) 1 (by decide) (List.mem_of_getElem? (i := 3) rfl) (v := .ref (g_ad G 1 (2 * k + 3))) rfl dX0_appear_22 ?_
  refine lv_fconst0 hx hb dX0_appear_25 ?_
  refine lv_fconst0 hx hb dX0_appear_26 ?_
  refine lv_fconst0 hx hb dX0_appear_27 ?_
  refine cVv ⟨hx, hb, hml, hown, hts⟩ (c_widen l G (cpF6 (cpF6 (thU S (va_up (thS S) k true)) (2 * k + 2) a) (2 * k + 3) a) (2 * k + 3) (show 2 * k + 3 < 1026 by omega) FP.fconst0 FP.fconst0 FP.fconst0 hn) (cwV 3 hts gX0_appear_X1_widen rfl rfl rfl (by decide +kernel) ⟨(Nat.le_of_ble_eq_true rfl), (Nat.le_of_ble_eq_true rfl)⟩) hw hT hS (rcv hw hT 1 (2 * k + 3) (show 2 * k + 3 < 1026 by omega) rfl rfl) (As := [.float FP.fconst0, .float FP.fconst0, .float FP.fconst0]) (rest := []) rfl hl.1 rfl (Nat.le_of_ble_eq_true rfl) dX0_appear_28 ⟨(Nat.le_of_ble_eq_true rfl), (Nat.le_of_ble_eq_true rfl)⟩ (fun H locs hw hS => ?_)
  refine lv_aload_n hx hb dX0_appear_31 rfl (lv_at hl 0 rfl) ?_
  refine lv_iload_n hx hb dX0_appear_32 rfl (lv_at hl 2 rfl) ?_
  refine lv_iload_n hx hb dX0_appear_33 rfl (lv_at hl 3 rfl) ?_
  refine cVv ⟨hx, hb, hml, hown, hts⟩ (c_setFilter l G (wdS (cpF6 (cpF6 (thU S (va_up (thS S) k true)) (2 * k + 2) a) (2 * k + 3) a) (2 * k + 3) FP.fconst0 FP.fconst0 FP.fconst0) k (show k < 512 by omega) g9 m9) (cwV 2 hts gX0_appear_X0_setFilter rfl rfl rfl (by decide +kernel) ⟨(Nat.le_of_ble_eq_true rfl), (Nat.le_of_ble_eq_true rfl)⟩) hw hT hS (rcv hw hT 4 k (show k < 512 by omega) rfl rfl) (As := [.int g9, .int m9]) (rest := []) rfl hl.1 rfl (Nat.le_of_ble_eq_true rfl) dX0_appear_34 ⟨(Nat.le_of_ble_eq_true rfl), (Nat.le_of_ble_eq_true rfl)⟩ (fun H locs hw hS => ?_)
  exact rv hx hb hlk hr hw hS  (Nat.le_of_ble_eq_true rfl) (Nat.le_of_ble_eq_true rfl) dX0_appear_37
set_option maxRecDepth 100000 in
set_option maxHeartbeats 4000000 in
theorem c_moveTo (l : Launch) (G : Gm) (S : St) (k : Nat) (hk : k < 512) (a : Nat) (ha : a < 1026) (h2 : a ≠ 2 * k + 2) (h3 : a ≠ 2 * k + 3) (dx dy dz : UInt32) (hn : mtB S k a = false → wdN (bxS (cpF6 (cpF6 S (2 * k + 2) a) (2 * k + 3) a) (2 * k + 3)) dx dy dz) : Pi l yX0_moveTo wsX0_moveTo ({ frames := 2, cells := 0, slots := 0, locals := 81 } : Room) [.ref (g_ad G 4 k), .ref (g_ad G 1 a), .float dx, .float dy, .float dz] G S (bI (!(mtB S k a))) (mtS S k a dx dy dz) := by
  refine ent (cc := cX0_moveTo) (maxL := 5) (ret := (some .boolean)) (by decide) rfl (Nat.le_of_ble_eq_true rfl) ?_
  intro p e s m below meth c ls C hw hT hS hl
  obtain ⟨hx, hb, hr, hml, hown, hts, hlk⟩ := C
  have hl : lv_has ls 5 [(0, .ref (g_ad G 4 k)), (1, .ref (g_ad G 1 a)), (2, .float dx), (3, .float dy), (4, .float dz)] := hl
  refine lv_aload_n hx hb dX0_moveTo_0 rfl (lv_at hl 0 rfl) ?_
  refine gf hx hb hown hts hw hT 4 k (show k < 512 by omega) (ci := 0) rfl rfl (fun _ h => List.mem_cons_of_mem _ (List.mem_append_left _ (List.mem_append_right _ h))) 0 (by decide) (List.mem_of_getElem? (i := 1) rfl) (v := .ref (g_ad G 1 (2 * k + 2))) rfl dX0_moveTo_1 ?_
  refine lv_aload_n hx hb dX0_moveTo_4 rfl (lv_at hl 1 rfl) ?_
  refine cVv ⟨hx, hb, hml, hown, hts⟩ (c_copyFrom l G S (2 * k + 2) (show 2 * k + 2 < 1026 by omega) a (show a < 1026 by omega) h2) (cwV 1 hts gX0_moveTo_X1_copyFrom rfl rfl rfl (by decide +kernel) ⟨(Nat.le_of_ble_eq_true rfl), (Nat.le_of_ble_eq_true rfl)⟩) hw hT hS (rcv hw hT 1 (2 * k + 2) (show 2 * k + 2 < 1026 by omega) rfl rfl) (As := [.ref (g_ad G 1 a)]) (rest := []) rfl hl.1 rfl (Nat.le_of_ble_eq_true rfl) dX0_moveTo_5 ⟨(Nat.le_of_ble_eq_true rfl), (Nat.le_of_ble_eq_true rfl)⟩ (fun H locs hw hS => ?_)
  refine lv_aload_n hx hb dX0_moveTo_8 rfl (lv_at hl 0 rfl) ?_
  refine gf hx hb hown hts hw hT 4 k (show k < 512 by omega) (ci := 0) rfl rfl (fun _ h => List.mem_cons_of_mem _ (List.mem_append_left _ (List.mem_append_right _ h))) 0 (by decide) (List.mem_of_getElem? (i := 1) rfl) (v := .ref (g_ad G 1 (2 * k + 2))) rfl dX0_moveTo_9 ?_
  refine lv_aload_n hx hb dX0_moveTo_12 rfl (lv_at hl 0 rfl) ?_
  refine gf hx hb hown hts hw hT 4 k (show k < 512 by omega) (ci := 0) rfl rfl (fun _ h => List.mem_cons_of_mem _ (List.mem_append_left _ (List.mem_append_right _ h))) 1 (by decide) (List.mem_of_getElem? (i := 2) rfl) (v := .ref (g_ad G 1 (2 * k + 3))) rfl dX0_moveTo_13 ?_
  refine cVi ⟨hx, hb, hml, hown, hts⟩ (c_liesIn l G (cpF6 S (2 * k + 2) a) (2 * k + 2) (show 2 * k + 2 < 1026 by omega) (2 * k + 3) (show 2 * k + 3 < 1026 by omega)) (cwV 1 hts gX0_moveTo_X1_liesIn rfl rfl rfl (by decide +kernel) ⟨(Nat.le_of_ble_eq_true rfl), (Nat.le_of_ble_eq_true rfl)⟩) hw hT hS (rcv hw hT 1 (2 * k + 2) (show 2 * k + 2 < 1026 by omega) rfl rfl) (As := [.ref (g_ad G 1 (2 * k + 3))]) (rest := []) rfl hl.1 rfl (Nat.le_of_ble_eq_true rfl) dX0_moveTo_16 ⟨(Nat.le_of_ble_eq_true rfl), (Nat.le_of_ble_eq_true rfl)⟩ (fun H locs hw hS => ?_)
  refine lv_if_eq (tgt := 24) hx hb dX0_moveTo_19 (by decide) (fun h1 => ?_) (fun h1 => ?_)
  · skip
    have h1 := bI_0.mp h1
    refine lv_aload_n hx hb dX0_moveTo_24 rfl (lv_at hl 0 rfl) ?_
    refine gf hx hb hown hts hw hT 4 k (show k < 512 by omega) (ci := 0) rfl rfl (fun _ h => List.mem_cons_of_mem _ (List.mem_append_left _ (List.mem_append_right _ h))) 1 (by decide) (List.mem_of_getElem? (i := 2) rfl) (v := .ref (g_ad G 1 (2 * k + 3))) rfl dX0_moveTo_25 ?_
    refine lv_aload_n hx hb dX0_moveTo_28 rfl (lv_at hl 1 rfl) ?_
    refine cVv ⟨hx, hb, hml, hown, hts⟩ (c_copyFrom l G (cpF6 S (2 * k + 2) a) (2 * k + 3) (show 2 * k + 3 < 1026 by omega) a (show a < 1026 by omega) h3) (cwV 1 hts gX0_moveTo_X1_copyFrom rfl rfl rfl (by decide +kernel) ⟨(Nat.le_of_ble_eq_true rfl), (Nat.le_of_ble_eq_true rfl)⟩) hw hT hS (rcv hw hT 1 (2 * k + 3) (show 2 * k + 3 < 1026 by omega) rfl rfl) (As := [.ref (g_ad G 1 a)]) (rest := []) rfl hl.1 rfl (Nat.le_of_ble_eq_true rfl) dX0_moveTo_29 ⟨(Nat.le_of_ble_eq_true rfl), (Nat.le_of_ble_eq_true rfl)⟩ (fun H locs hw hS => ?_)
    refine lv_aload_n hx hb dX0_moveTo_32 rfl (lv_at hl 0 rfl) ?_
    refine gf hx hb hown hts hw hT 4 k (show k < 512 by omega) (ci := 0) rfl rfl (fun _ h => List.mem_cons_of_mem _ (List.mem_append_left _ (List.mem_append_right _ h))) 1 (by decide) (List.mem_of_getElem? (i := 2) rfl) (v := .ref (g_ad G 1 (2 * k + 3))) rfl dX0_moveTo_33 ?_
    refine lv_fload_n hx hb dX0_moveTo_36 rfl (lv_at hl 2 rfl) ?_
    refine lv_fload_n hx hb dX0_moveTo_37 rfl (lv_at hl 3 rfl) ?_
    refine lv_fload hx hb dX0_moveTo_38 (lv_at hl 4 rfl) ?_
    refine cVv ⟨hx, hb, hml, hown, hts⟩ (c_widen l G (cpF6 (cpF6 S (2 * k + 2) a) (2 * k + 3) a) (2 * k + 3) (show 2 * k + 3 < 1026 by omega) dx dy dz (hn (by have q := h1; exact q))) (cwV 3 hts gX0_moveTo_X1_widen rfl rfl rfl (by decide +kernel) ⟨(Nat.le_of_ble_eq_true rfl), (Nat.le_of_ble_eq_true rfl)⟩) hw hT hS (rcv hw hT 1 (2 * k + 3) (show 2 * k + 3 < 1026 by omega) rfl rfl) (As := [.float dx, .float dy, .float dz]) (rest := []) rfl hl.1 rfl (Nat.le_of_ble_eq_true rfl) dX0_moveTo_40 ⟨(Nat.le_of_ble_eq_true rfl), (Nat.le_of_ble_eq_true rfl)⟩ (fun H locs hw hS => ?_)
    refine lv_aload_n hx hb dX0_moveTo_43 rfl (lv_at hl 0 rfl) ?_
    refine lv_iconst (v := nI 1) hx hb dX0_moveTo_44 (by decide) ?_
    refine top_i (y := bI true) (by decide) ?_
    refine pf (S' := (tcU (wdS (cpF6 (cpF6 S (2 * k + 2) a) (2 * k + 3) a) (2 * k + 3) dx dy dz) (va_up (tcS (wdS (cpF6 (cpF6 S (2 * k + 2) a) (2 * k + 3) a) (2 * k + 3) dx dy dz)) k true))) hx hb hown hts hw hT hS 4 k (show k < 512 by omega) (ci := 0) rfl rfl (fun _ h => List.mem_cons_of_mem _ (List.mem_append_left _ (List.mem_append_right _ h))) tyX0 tyX0_ok nmX0 5 (by decide) (List.mem_of_getElem? (i := 3) rfl) rfl (ty := .boolean) (by decide +kernel) (bI_nar _) (bI_fit _) (Nat.le_of_ble_eq_true rfl) (mup_tc G (wdS (cpF6 (cpF6 S (2 * k + 2) a) (2 * k + 3) a) (2 * k + 3) dx dy dz) k true) dX0_moveTo_45 (fun H locs hw hS => ?_)
    refine lv_iconst (v := nI 1) hx hb dX0_moveTo_48 (by decide) ?_
    refine top_i (y := bI true) (by decide) ?_
    exact ri hx hb hlk hr (by unfold mtS; rw [if_neg (show ¬ mtB S k a = true from by rw [show mtB S k a = false from h1]; decide)]; exact hw) hS (congrArg bI (show true = !(mtB S k a) by rw [show mtB S k a = false from h1]; rfl)) (bI_nar _) (Nat.le_of_ble_eq_true rfl) (Nat.le_of_ble_eq_true rfl) dX0_moveTo_49
  · skip
    have h1 := bI_n0.mp h1
    refine lv_iconst (v := nI 0) hx hb dX0_moveTo_22 (by decide) ?_
    refine top_i (y := bI false) (by decide) ?_
    exact ri hx hb hlk hr (by unfold mtS; rw [if_pos (show mtB S k a = true from h1)]; exact hw) hS (congrArg bI (show false = !(mtB S k a) by rw [show mtB S k a = true from h1]; rfl)) (bI_nar _) (Nat.le_of_ble_eq_true rfl) (Nat.le_of_ble_eq_true rfl) dX0_moveTo_23
set_option maxRecDepth 100000 in
set_option maxHeartbeats 4000000 in
theorem c_pairsWith (l : Launch) (G : Gm) (S : St) (k : Nat) (hk : k < 512) (o : Nat) (ho : o < 512) : Pi l yX0_pairsWith wsX0_pairsWith ({ frames := 1, cells := 0, slots := 0, locals := 22 } : Room) [.ref (g_ad G 4 k), .ref (g_ad G 4 o)] G S (bI (pwB S k o)) S := by
  refine ent (cc := cX0_pairsWith) (maxL := 2) (ret := (some .boolean)) (by decide) rfl (Nat.le_of_ble_eq_true rfl) ?_
  intro p e s m below meth c ls C hw hT hS hl
  obtain ⟨hx, hb, hr, hml, hown, hts, hlk⟩ := C
  have hl : lv_has ls 2 [(0, .ref (g_ad G 4 k)), (1, .ref (g_ad G 4 o))] := hl
  refine lv_aload_n hx hb dX0_pairsWith_0 rfl (lv_at hl 0 rfl) ?_
  refine gf hx hb hown hts hw hT 4 k (show k < 512 by omega) (ci := 0) rfl rfl (fun _ h => List.mem_cons_of_mem _ (List.mem_append_left _ (List.mem_append_right _ h))) 4 (by decide) (List.mem_of_getElem? (i := 1) rfl) (v := .int (bI (thS S k))) rfl dX0_pairsWith_1 ?_
  refine lv_if_eq (tgt := 56) hx hb dX0_pairsWith_4 (by decide) (fun h1 => ?_) (fun h1 => ?_)
  · skip
    have h1 := bI_0.mp h1
    refine lv_iconst (v := nI 0) hx hb dX0_pairsWith_56 (by decide) ?_
    refine top_i (y := bI false) (by decide) ?_
    exact ri hx hb hlk hr hw hS (congrArg bI (by simp [pwB, h1])) (bI_nar _) (Nat.le_of_ble_eq_true rfl) (Nat.le_of_ble_eq_true rfl) dX0_pairsWith_57
  · skip
    have h1 := bI_n0.mp h1
    refine lv_aload_n hx hb dX0_pairsWith_7 rfl (lv_at hl 1 rfl) ?_
    refine gf hx hb hown hts hw hT 4 o (show o < 512 by omega) (ci := 0) rfl rfl (fun _ h => List.mem_cons_of_mem _ (List.mem_append_left _ (List.mem_append_right _ h))) 4 (by decide) (List.mem_of_getElem? (i := 1) rfl) (v := .int (bI (thS S o))) rfl dX0_pairsWith_8 ?_
    refine lv_if_eq (tgt := 56) hx hb dX0_pairsWith_11 (by decide) (fun h2 => ?_) (fun h2 => ?_)
    · skip
      have h2 := bI_0.mp h2
      refine lv_iconst (v := nI 0) hx hb dX0_pairsWith_56 (by decide) ?_
      refine top_i (y := bI false) (by decide) ?_
      exact ri hx hb hlk hr hw hS (congrArg bI (by simp [pwB, h1, h2])) (bI_nar _) (Nat.le_of_ble_eq_true rfl) (Nat.le_of_ble_eq_true rfl) dX0_pairsWith_57
    · skip
      have h2 := bI_n0.mp h2
      refine lv_aload_n hx hb dX0_pairsWith_14 rfl (lv_at hl 0 rfl) ?_
      refine gf hx hb hown hts hw hT 4 k (show k < 512 by omega) (ci := 0) rfl rfl (fun _ h => List.mem_cons_of_mem _ (List.mem_append_left _ (List.mem_append_right _ h))) 2 (by decide) (List.mem_of_getElem? (i := 2) rfl) (v := .int (grS S k)) rfl dX0_pairsWith_15 ?_
      refine lv_aload_n hx hb dX0_pairsWith_18 rfl (lv_at hl 1 rfl) ?_
      refine gf hx hb hown hts hw hT 4 o (show o < 512 by omega) (ci := 0) rfl rfl (fun _ h => List.mem_cons_of_mem _ (List.mem_append_left _ (List.mem_append_right _ h))) 3 (by decide) (List.mem_of_getElem? (i := 3) rfl) (v := .int (mkS S o)) rfl dX0_pairsWith_19 ?_
      refine lv_iand hx hb dX0_pairsWith_22 ?_
      refine lv_if_eq (tgt := 56) hx hb dX0_pairsWith_23 (by decide) (fun h3 => ?_) (fun h3 => ?_)
      · skip
        refine lv_iconst (v := nI 0) hx hb dX0_pairsWith_56 (by decide) ?_
        refine top_i (y := bI false) (by decide) ?_
        exact ri hx hb hlk hr hw hS (congrArg bI (by simp [pwB, h1, h2, h3])) (bI_nar _) (Nat.le_of_ble_eq_true rfl) (Nat.le_of_ble_eq_true rfl) dX0_pairsWith_57
      · skip
        refine lv_aload_n hx hb dX0_pairsWith_26 rfl (lv_at hl 1 rfl) ?_
        refine gf hx hb hown hts hw hT 4 o (show o < 512 by omega) (ci := 0) rfl rfl (fun _ h => List.mem_cons_of_mem _ (List.mem_append_left _ (List.mem_append_right _ h))) 2 (by decide) (List.mem_of_getElem? (i := 2) rfl) (v := .int (grS S o)) rfl dX0_pairsWith_27 ?_
        refine lv_aload_n hx hb dX0_pairsWith_30 rfl (lv_at hl 0 rfl) ?_
        refine gf hx hb hown hts hw hT 4 k (show k < 512 by omega) (ci := 0) rfl rfl (fun _ h => List.mem_cons_of_mem _ (List.mem_append_left _ (List.mem_append_right _ h))) 3 (by decide) (List.mem_of_getElem? (i := 3) rfl) (v := .int (mkS S k)) rfl dX0_pairsWith_31 ?_
        refine lv_iand hx hb dX0_pairsWith_34 ?_
        refine lv_if_eq (tgt := 56) hx hb dX0_pairsWith_35 (by decide) (fun h4 => ?_) (fun h4 => ?_)
        · skip
          refine lv_iconst (v := nI 0) hx hb dX0_pairsWith_56 (by decide) ?_
          refine top_i (y := bI false) (by decide) ?_
          exact ri hx hb hlk hr hw hS (congrArg bI (by simp [pwB, h1, h2, h3, h4])) (bI_nar _) (Nat.le_of_ble_eq_true rfl) (Nat.le_of_ble_eq_true rfl) dX0_pairsWith_57
        · skip
          refine lv_aload_n hx hb dX0_pairsWith_38 rfl (lv_at hl 0 rfl) ?_
          refine gf hx hb hown hts hw hT 4 k (show k < 512 by omega) (ci := 0) rfl rfl (fun _ h => List.mem_cons_of_mem _ (List.mem_append_left _ (List.mem_append_right _ h))) 1 (by decide) (List.mem_of_getElem? (i := 4) rfl) (v := .ref (g_ad G 1 (2 * k + 3))) rfl dX0_pairsWith_39 ?_
          refine lv_aload_n hx hb dX0_pairsWith_42 rfl (lv_at hl 1 rfl) ?_
          refine gf hx hb hown hts hw hT 4 o (show o < 512 by omega) (ci := 0) rfl rfl (fun _ h => List.mem_cons_of_mem _ (List.mem_append_left _ (List.mem_append_right _ h))) 1 (by decide) (List.mem_of_getElem? (i := 4) rfl) (v := .ref (g_ad G 1 (2 * o + 3))) rfl dX0_pairsWith_43 ?_
          refine cVi ⟨hx, hb, hml, hown, hts⟩ (c_overlaps l G S (2 * k + 3) (show 2 * k + 3 < 1026 by omega) (2 * o + 3) (show 2 * o + 3 < 1026 by omega)) (cwV 1 hts gX0_pairsWith_X1_overlaps rfl rfl rfl (by decide +kernel) ⟨(Nat.le_of_ble_eq_true rfl), (Nat.le_of_ble_eq_true rfl)⟩) hw hT hS (rcv hw hT 1 (2 * k + 3) (show 2 * k + 3 < 1026 by omega) rfl rfl) (As := [.ref (g_ad G 1 (2 * o + 3))]) (rest := []) rfl hl.1 rfl (Nat.le_of_ble_eq_true rfl) dX0_pairsWith_46 ⟨(Nat.le_of_ble_eq_true rfl), (Nat.le_of_ble_eq_true rfl)⟩ (fun H locs hw hS => ?_)
          refine lv_if_eq (tgt := 56) hx hb dX0_pairsWith_49 (by decide) (fun h5 => ?_) (fun h5 => ?_)
          · skip
            have h5 := bI_0.mp h5
            refine lv_iconst (v := nI 0) hx hb dX0_pairsWith_56 (by decide) ?_
            refine top_i (y := bI false) (by decide) ?_
            exact ri hx hb hlk hr hw hS (congrArg bI (by simp [pwB, h1, h2, h3, h4, h5])) (bI_nar _) (Nat.le_of_ble_eq_true rfl) (Nat.le_of_ble_eq_true rfl) dX0_pairsWith_57
          · skip
            have h5 := bI_n0.mp h5
            refine lv_iconst (v := nI 1) hx hb dX0_pairsWith_52 (by decide) ?_
            refine lv_goto (tgt := 57) hx hb dX0_pairsWith_53 (by decide) ?_
            refine top_i (y := bI true) (by decide) ?_
            exact ri hx hb hlk hr hw hS (congrArg bI (by simp [pwB, h1, h2, h3, h4, h5])) (bI_nar _) (Nat.le_of_ble_eq_true rfl) (Nat.le_of_ble_eq_true rfl) dX0_pairsWith_57
end
section
/-! Floats: how large the numbers are, and that no NaN comes -/
abbrev nn (x : UInt32) : Prop := FP.Core.val32 x ≠ .nan
theorem nn_v {x : UInt32} (h : nn x) : vf_n32 x := by
  unfold vf_n32
  rw [UInt32.le_iff_toNat_le, FP.Core.mask_toNat32]
  exact (FP.Core.ne_nan32 x).mp h
theorem nb_v {x : UInt32} (h : FP.Core.fIsNaN x = false) : vf_n32 x := nn_v ((FP.Core.notNaN_iff32 x).mp h)
def Mg (K : Nat) (x : UInt32) : Prop := x.toNat % 2 ^ 31 < K * 2 ^ 23
theorem Mg.fin {K : Nat} {x : UInt32} (h : Mg K x) (hK : K ≤ 255) : FP.Core.FFin x := FP.Core.fin_of_lt32 h hK
theorem Mg.mono {K K' : Nat} {x : UInt32} (h : Mg K x) (hK : K ≤ K') : Mg K' x := Nat.lt_of_lt_of_le h (Nat.mul_le_mul_right _ hK)
theorem Mg.nn {K : Nat} {x : UInt32} (h : Mg K x) (hK : K ≤ 255) : nn x := (h.fin hK).ne_nan
theorem Mg.v {K : Nat} {x : UInt32} (h : Mg K x) (hK : K ≤ 255) : vf_n32 x := nn_v (h.nn hK)
theorem Mg.add {K : Nat} {x y : UInt32} (h : Mg K x) (h2 : Mg K y) (hK : K ≤ 255) : Mg (K + 2) (FP.fadd x y) := FP.Core.fadd_mag h h2 hK
theorem Mg.sub {K : Nat} {x y : UInt32} (h : Mg K x) (h2 : Mg K y) (hK : K ≤ 255) : Mg (K + 2) (FP.fsub x y) := FP.Core.fsub_mag h h2 hK
theorem fle_key {a b : UInt32} (h : fLe a b = true) : nn a ∧ nn b ∧ FP.Core.fkey a ≤ FP.Core.fkey b := by
  unfold fLe fLt fEq at h
  simp only [Bool.or_eq_true, beq_iff_eq] at h
  have key : ∃ o, FP.Core.fcmp a b = some o ∧ (o = .lt ∨ o = .eq) := by
    rcases h with h | h
    · exact ⟨_, h, Or.inl rfl⟩
    · exact ⟨_, h, Or.inr rfl⟩
  obtain ⟨o, h1, h2⟩ := key
  obtain ⟨n1, n2⟩ := FP.Core.fcmp_some h1
  rw [FP.Core.fcmp_key n1 n2, Option.some.injEq] at h1
  refine ⟨n1, n2, ?_⟩
  rcases h2 with rfl | rfl
  · have := (FP.Core.compare_lt_iff _ _).mp h1; omega
  · have := (FP.Core.compare_eq_iff _ _).mp h1; omega
theorem fge_key {a b : UInt32} (h : fGe a b = true) : nn a ∧ nn b ∧ FP.Core.fkey b ≤ FP.Core.fkey a := by
  unfold fGe fGt fEq at h
  simp only [Bool.or_eq_true, beq_iff_eq] at h
  have key : ∃ o, FP.Core.fcmp a b = some o ∧ (o = .gt ∨ o = .eq) := by
    rcases h with h | h
    · exact ⟨_, h, Or.inl rfl⟩
    · exact ⟨_, h, Or.inr rfl⟩
  obtain ⟨o, h1, h2⟩ := key
  obtain ⟨n1, n2⟩ := FP.Core.fcmp_some h1
  rw [FP.Core.fcmp_key n1 n2, Option.some.injEq] at h1
  refine ⟨n1, n2, ?_⟩
  rcases h2 with rfl | rfl
  · have := (FP.Core.compare_gt_iff _ _).mp h1; omega
  · have := (FP.Core.compare_eq_iff _ _).mp h1; omega
theorem i2f_16 : FP.i2f (nI 16384) = 1182793728 := by decide +kernel
theorem i2f_m16 : FP.i2f (-(nI 16384)) = 3330277376 := by decide +kernel
theorem i2f_2 : FP.i2f (nI 256) = 1132462080 := by decide +kernel
theorem i2f_m2 : FP.i2f (-(nI 256)) = 3279945728 := by decide +kernel
theorem wi16 {x : UInt32} (h : wiF x (nI 16384) = true) : Mg 142 x := by
  unfold wiF at h
  rw [i2f_16, i2f_m16] at h
  simp only [Bool.and_eq_true] at h
  obtain ⟨-, -, h1⟩ := fge_key h.1
  obtain ⟨-, -, h2⟩ := fle_key h.2
  have e1 : FP.Core.fkey 1182793728 = 1182793728 := by decide +kernel
  have e2 : FP.Core.fkey 3330277376 = -1182793728 := by decide +kernel
  rw [e2] at h1
  rw [e1] at h2
  have h3 := x.toNat_lt
  unfold FP.Core.fkey at h1 h2
  unfold Mg
  by_cases q : 2 ^ 31 ≤ x.toNat
  · rw [if_pos q] at h1 h2; omega
  · rw [if_neg q] at h1 h2; omega
theorem wi2 {x : UInt32} (h : wiF x (nI 256) = true) : Mg 136 x := by
  unfold wiF at h
  rw [i2f_2, i2f_m2] at h
  simp only [Bool.and_eq_true] at h
  obtain ⟨-, -, h1⟩ := fge_key h.1
  obtain ⟨-, -, h2⟩ := fle_key h.2
  have e1 : FP.Core.fkey 1132462080 = 1132462080 := by decide +kernel
  have e2 : FP.Core.fkey 3279945728 = -1132462080 := by decide +kernel
  rw [e2] at h1
  rw [e1] at h2
  have h3 := x.toNat_lt
  unfold FP.Core.fkey at h1 h2
  unfold Mg
  by_cases q : 2 ^ 31 ≤ x.toNat
  · rw [if_pos q] at h1 h2; omega
  · rw [if_neg q] at h1 h2; omega
theorem gd_at {f : Nat → UInt32} (h : gdF f = true) : ∀ k, k < 6 → Mg 142 (f k) := by
  unfold gdF at h
  simp only [Bool.and_eq_true] at h
  obtain ⟨h0, h1, h2, h3, h4, h5⟩ := h
  intro k hk
  match k, hk with
  | 0, _ => exact wi16 h0
  | 1, _ => exact wi16 h1
  | 2, _ => exact wi16 h2
  | 3, _ => exact wi16 h3
  | 4, _ => exact wi16 h4
  | 5, _ => exact wi16 h5
  | n + 6, h => omega
/-- a movement that is allowed -/
def mvB (dx dy dz : UInt32) : Bool := wiF dx (nI 256) && (wiF dy (nI 256) && wiF dz (nI 256))
theorem mvB_at {dx dy dz : UInt32} (h : mvB dx dy dz = true) : Mg 136 dx ∧ Mg 136 dy ∧ Mg 136 dz := by
  unfold mvB at h
  simp only [Bool.and_eq_true] at h
  exact ⟨wi2 h.1, wi2 h.2.1, wi2 h.2.2⟩
/-- a box whose numbers are good, as numbers -/
def Gb (f : Nat → UInt32) : Prop := ∀ k, k < 6 → Mg 142 (f k)
def Wb (f : Nat → UInt32) : Prop := ∀ k, k < 6 → Mg 146 (f k)
theorem mv_ok {f : Nat → UInt32} {dx dy dz : UInt32} (h : Gb f) (hm : mvB dx dy dz = true) : mvN f dx dy dz := by
  obtain ⟨m1, m2, m3⟩ := mvB_at hm
  have key : ∀ k, k < 6 → ∀ d, Mg 136 d → vf_n32 (FP.fadd (f k) d) := fun k hk d hd => ((h k hk).add (hd.mono (by decide)) (by decide)).v (by decide)
  exact ⟨key 0 (by decide) _ m1, key 1 (by decide) _ m2, key 2 (by decide) _ m3, key 3 (by decide) _ m1, key 4 (by decide) _ m2, key 5 (by decide) _ m3⟩
theorem mg_q : Mg 142 1048576000 := by unfold Mg; decide
theorem mg_2 : Mg 129 FP.fconst2 := by unfold Mg; decide
theorem mg_0 : Mg 136 FP.fconst0 := by unfold Mg; decide
theorem mg_d2 {d : UInt32} (h : Mg 136 d) : Mg 144 (FP.fmul d FP.fconst2) := Mg.mono (K := 136 + 129 - 129 + 3) (FP.Core.fmul_mag (Ka := 136) (Kb := 129) h mg_2 (by decide) (by decide)) (by decide)
theorem wa_ok {f : Nat → UInt32} {a : Nat} {d : UInt32} (h1 : Mg 142 (f a)) (h2 : Mg 142 (f (a + 3))) (hd : Mg 136 d) : waN f a d := by
  have a1 := h1.sub mg_q (by decide)
  have a2 := h2.add mg_q (by decide)
  exact ⟨a1.v (by decide), a2.v (by decide), (mg_d2 hd).v (by decide), (a1.add (mg_d2 hd) (by decide)).v (by decide), (a2.add (mg_d2 hd) (by decide)).v (by decide)⟩
theorem wa_a {f : Nat → UInt32} {a : Nat} {d : UInt32} {k : Nat} (h : k ≠ a) (h2 : k ≠ a + 3) : waF f a d k = f k := by
  unfold waF
  split <;> rw [va_up_ne _ _ h2, va_up_ne _ _ h]
theorem wa_v {f : Nat → UInt32} {a : Nat} {d : UInt32} (h1 : Mg 142 (f a)) (h2 : Mg 142 (f (a + 3))) (hd : Mg 136 d) : Mg 146 (waF f a d a) ∧ Mg 146 (waF f a d (a + 3)) := by
  have a1 := h1.sub mg_q (by decide)
  have a2 := h2.add mg_q (by decide)
  have b1 := a1.add (mg_d2 hd) (by decide)
  have b2 := a2.add (mg_d2 hd) (by decide)
  unfold waF
  split
  · rw [va_up_self, va_up_ne _ _ (by omega), va_up_self]
    exact ⟨b1.mono (by decide), a2.mono (by decide)⟩
  · rw [va_up_self, va_up_ne _ _ (by omega), va_up_self]
    exact ⟨a1.mono (by decide), b2.mono (by decide)⟩
theorem wd_ok {f : Nat → UInt32} {dx dy dz : UInt32} (h : Gb f) (m1 : Mg 136 dx) (m2 : Mg 136 dy) (m3 : Mg 136 dz) : wdN f dx dy dz := by
  refine ⟨wa_ok (h 0 (by decide)) (h 3 (by decide)) m1, wa_ok ?_ ?_ m2, wa_ok ?_ ?_ m3⟩
  · rw [wa_a (by decide) (by decide)]; exact h 1 (by decide)
  · rw [wa_a (by decide) (by decide)]; exact h 4 (by decide)
  · rw [wa_a (by decide) (by decide), wa_a (by decide) (by decide)]; exact h 2 (by decide)
  · rw [wa_a (by decide) (by decide), wa_a (by decide) (by decide)]; exact h 5 (by decide)
theorem wd_v {f : Nat → UInt32} {dx dy dz : UInt32} (h : Gb f) (m1 : Mg 136 dx) (m2 : Mg 136 dy) (m3 : Mg 136 dz) : Wb (wdF f dx dy dz) := by
  have g1 : waF f 0 dx 1 = f 1 := wa_a (by decide) (by decide)
  have g4 : waF f 0 dx 4 = f 4 := wa_a (by decide) (by decide)
  have g2 : waF (waF f 0 dx) 1 dy 2 = f 2 := by rw [wa_a (by decide) (by decide), wa_a (by decide) (by decide)]
  have g5 : waF (waF f 0 dx) 1 dy 5 = f 5 := by rw [wa_a (by decide) (by decide), wa_a (by decide) (by decide)]
  have v0 := wa_v (a := 0) (h 0 (by decide)) (h 3 (by decide)) m1
  have v1 := wa_v (f := waF f 0 dx) (a := 1) (by rw [g1]; exact h 1 (by decide)) (by rw [g4]; exact h 4 (by decide)) m2
  have v2 := wa_v (f := waF (waF f 0 dx) 1 dy) (a := 2) (by rw [g2]; exact h 2 (by decide)) (by rw [g5]; exact h 5 (by decide)) m3
  intro k hk
  unfold wdF
  match k, hk with
  | 0, _ => rw [wa_a (by decide) (by decide), wa_a (by decide) (by decide)]; exact v0.1
  | 1, _ => rw [wa_a (by decide) (by decide)]; exact v1.1
  | 2, _ => exact v2.1
  | 3, _ => rw [wa_a (by decide) (by decide), wa_a (by decide) (by decide)]; exact v0.2
  | 4, _ => rw [wa_a (by decide) (by decide)]; exact v1.2
  | 5, _ => exact v2.2
  | n + 6, h => omega
theorem en_ok {f g : Nat → UInt32} (hf : Wb f) (hg : Gb g) : enN f g := by
  intro i hi
  have d1 := (hg (3 + i) (by omega)).sub (hg i (by omega)) (by decide)
  have e1 := (hf i (by omega)).sub ((hg i (by omega)).mono (by decide)) (by decide)
  have e2 := (hf (3 + i) (by omega)).sub ((hg i (by omega)).mono (by decide)) (by decide)
  refine ⟨d1.v (by decide), e1.v (by decide), e2.v (by decide), fun hz => ?_⟩
  have nz : ¬ FP.Core.FZero (enD g i) := fun q => by
    have := FP.Core.zero_iff32.mpr q
    unfold fEq at hz
    rw [show FP.fcmp (enD g i) FP.fconst0 = some .eq from this] at hz
    exact absurd hz (by decide)
  exact ⟨nb_v (FP.Core.fdiv_out (e1.fin (by decide)).notNaN (d1.fin (by decide)) nz), nb_v (FP.Core.fdiv_out (e2.fin (by decide)).notNaN (d1.fin (by decide)) nz)⟩
theorem fcmp_nn {x y : UInt32} (hx : nn x) (hy : nn y) : ∃ o, FP.fcmp x y = some o := ⟨_, FP.Core.fcmp_key hx hy⟩
theorem fle_n {x y : UInt32} (hx : nn x) (hy : nn y) : fLe x y = !(fGt x y) := by
  obtain ⟨o, h⟩ := fcmp_nn hx hy
  unfold fLe fLt fEq fGt
  rw [h]
  cases o <;> decide
theorem fge_n {x y : UInt32} (hx : nn x) (hy : nn y) : fGe x y = !(fLt x y) := by
  obtain ⟨o, h⟩ := fcmp_nn hx hy
  unfold fGe fGt fEq fLt
  rw [h]
  cases o <;> decide
end
section
/-! PairFinder: its small methods -/
theorem nz_le {a : Nat} (h : a < 2 ^ 31) : nI a ≤ 0 ↔ a = 0 := by
  have := nI_leI (a := a) (b := 0) h (by decide)
  rw [nI_0] at this
  rw [this]; omega
theorem nz_eq {a : Nat} (h : a < 2 ^ 31) : nI a = 0 ↔ a = 0 := by
  have := nI_eq (a := a) (b := 0) h (by decide)
  rw [nI_0] at this
  exact this
def orX (a b : Option String) : Option String := match a with
  | none => b
  | some e => some e
def kN (k : Int32) : Nat := k.toNatClampNeg
theorem kN_nI {j : Nat} (h : j < 65536) : kN (nI j) = j := nI_clamp (by omega)
def bnF (k : Int32) : Bool := !(decide (k < 0)) && decide (k < nI 512)
theorem bn_nat {k : Int32} (h : bnF k = true) : ∃ j, j < 512 ∧ k = nI j := by
  unfold bnF at h
  simp only [Bool.and_eq_true, Bool.not_eq_true', decide_eq_false_iff_not, decide_eq_true_eq] at h
  obtain ⟨j, hj, rfl⟩ := nI_of h.1
  exact ⟨j, (nI_ltI hj (by decide)).mp h.2, rfl⟩
theorem bn_nI {j : Nat} (h : j < 512) : bnF (nI j) = true := by
  unfold bnF
  simp only [Bool.and_eq_true, Bool.not_eq_true', decide_eq_false_iff_not, decide_eq_true_eq]
  exact ⟨nI_pos (by omega), nI_lt h (by decide)⟩
def knI (S : St) (k : Int32) : Bool := bnF k && thS S (kN k)
def thereX (S : St) (k : Int32) : Option String := if knI S k = true then none else some xI
theorem there_n {S : St} {k : Int32} (h : thereX S k = none) : ∃ j, j < 512 ∧ k = nI j ∧ thS S j = true := by
  unfold thereX at h
  split at h
  · next q =>
    unfold knI at q
    simp only [Bool.and_eq_true] at q
    obtain ⟨j, hj, rfl⟩ := bn_nat q.1
    refine ⟨j, hj, rfl, ?_⟩
    have := q.2
    rw [kN_nI (by omega)] at this
    exact this
  · cases h
def goodX (x y z : UInt32) : Option String := if (wiF x (nI 16384) && (wiF y (nI 16384) && wiF z (nI 16384))) = true then none else some xA
def movX (x y z : UInt32) : Option String := if mvB x y z = true then none else some xA
def padX (S : St) : Option String := if bxF (bxS S 0) = true then none else some xA
def roomX (S : St) (n : Int32) : Option String := if nI 512 - nfS S 0 < n then some xS else none
def foundX (S : St) (k : Int32) : Option String := if k < 0 then some xI else if k < nfS S 2 then none else some xI
def pcode (a b : Nat) : Nat := if a < b then a * 512 + b else b * 512 + a
theorem pcode_lt {a b : Nat} (ha : a < 512) (hb : b < 512) : pcode a b < 262144 := by unfold pcode; split <;> omega
def apB (S : St) (a b : Nat) : Bool := !(decide (a = b)) && hdS S (ipS S).1 (pcode a b)
def ctB (p : Nat → Bool) : Nat → Nat
  | 0 => 0
  | n + 1 => ctB p n + (if p n = true then 1 else 0)
theorem ctB_le (p : Nat → Bool) : ∀ n, ctB p n ≤ n
  | 0 => Nat.le_refl 0
  | n + 1 => by have := ctB_le p n; unfold ctB; split <;> omega
def fnS (S : St) (c b : Nat) (x : UInt32) : St := nfU (ffU (fbU S (va_up (fbS S) c (nI b))) (va_up (ffS S) c x)) (va_up (nfS S) 2 (nI (c + 1)))
def mvS (S : St) (j : Nat) (dx dy dz : UInt32) : St := boxU S j (mvF (bxS S j) dx dy dz)
theorem cp_gb {f g : Nat → UInt32} (h : Gb f) : Gb (va_cpy f g 0 0 6) := by
  intro k hk
  rw [pk_cpy_in (by omega) (by omega)]
  simpa using h k hk
theorem mt_ok {S : St} {k a : Nat} {dx dy dz : UInt32} (h : Gb (bxS S a)) (h2 : a ≠ 2 * k + 2) (hm : mvB dx dy dz = true) : wdN (bxS (cpF6 (cpF6 S (2 * k + 2) a) (2 * k + 3) a) (2 * k + 3)) dx dy dz := by
  obtain ⟨m1, m2, m3⟩ := mvB_at hm
  refine wd_ok ?_ m1 m2 m3
  unfold cpF6
  rw [bx_s]
  refine cp_gb ?_
  rw [bx_ne _ _ h2]
  exact h
theorem ap_ok {S : St} {k a : Nat} (h : Gb (bxS S a)) (h2 : a ≠ 2 * k + 2) : wdN (bxS (cpF6 (cpF6 (thU S (va_up (thS S) k true)) (2 * k + 2) a) (2 * k + 3) a) (2 * k + 3)) FP.fconst0 FP.fconst0 FP.fconst0 := by
  refine wd_ok ?_ mg_0 mg_0 mg_0
  unfold cpF6
  rw [bx_s]
  refine cp_gb ?_
  rw [bx_ne _ _ h2]
  exact h
set_option maxRecDepth 100000 in
set_option maxHeartbeats 4000000 in
theorem c_isBodyNumber (l : Launch) (G : Gm) (S : St) (k : Int32) : Pi l yX3_isBodyNumber wsX3_isBodyNumber ({ frames := 0, cells := 0, slots := 0, locals := 0 } : Room) [.int k] G S (bI (bnF k)) S := by
  refine ent (cc := cX3_isBodyNumber) (maxL := 1) (ret := (some .boolean)) (by decide) rfl (Nat.le_of_ble_eq_true rfl) ?_
  intro p e s m below meth c ls C hw hT hS hl
  obtain ⟨hx, hb, hr, hml, hown, hts, hlk⟩ := C
  have hl : lv_has ls 1 [(0, .int k)] := hl
  refine lv_iload_n hx hb dX3_isBodyNumber_0 rfl (lv_at hl 0 rfl) ?_
  refine lv_if_lt (tgt := 15) hx hb dX3_isBodyNumber_1 (by decide) (fun h1 => ?_) (fun h1 => ?_)
  · skip
    refine lv_iconst (v := nI 0) hx hb dX3_isBodyNumber_15 (by decide) ?_
    refine top_i (y := bI false) (by decide) ?_
    exact ri hx hb hlk hr hw hS (congrArg bI (by simp [bnF, h1])) (bI_nar _) (Nat.le_of_ble_eq_true rfl) (Nat.le_of_ble_eq_true rfl) dX3_isBodyNumber_16
  · skip
    refine lv_iload_n hx hb dX3_isBodyNumber_4 rfl (lv_at hl 0 rfl) ?_
    refine lv_sipush (v := nI 512) hx hb dX3_isBodyNumber_5 (by decide) ?_
    refine lv_icmp_ge (tgt := 15) hx hb dX3_isBodyNumber_8 (by decide) (fun h2 => ?_) (fun h2 => ?_)
    · skip
      have h2 : ¬ k < (nI 512) := Int32.not_lt.mpr h2
      refine lv_iconst (v := nI 0) hx hb dX3_isBodyNumber_15 (by decide) ?_
      refine top_i (y := bI false) (by decide) ?_
      exact ri hx hb hlk hr hw hS (congrArg bI (by simp [bnF, h1, h2])) (bI_nar _) (Nat.le_of_ble_eq_true rfl) (Nat.le_of_ble_eq_true rfl) dX3_isBodyNumber_16
    · skip
      have h2 : k < (nI 512) := Int32.not_le.mp h2
      refine lv_iconst (v := nI 1) hx hb dX3_isBodyNumber_11 (by decide) ?_
      refine lv_goto (tgt := 16) hx hb dX3_isBodyNumber_12 (by decide) ?_
      refine top_i (y := bI true) (by decide) ?_
      exact ri hx hb hlk hr hw hS (congrArg bI (by simp [bnF, h1, h2])) (bI_nar _) (Nat.le_of_ble_eq_true rfl) (Nat.le_of_ble_eq_true rfl) dX3_isBodyNumber_16
set_option maxRecDepth 100000 in
set_option maxHeartbeats 4000000 in
theorem c_pairCode (l : Launch) (G : Gm) (S : St) (a : Nat) (ha : a < 512) (b : Nat) (hb5 : b < 512) : Pi l yX3_pairCode wsX3_pairCode ({ frames := 0, cells := 0, slots := 0, locals := 0 } : Room) [.int (nI a), .int (nI b)] G S (nI (pcode a b)) S := by
  refine ent (cc := cX3_pairCode) (maxL := 2) (ret := (some .int)) (by decide) rfl (Nat.le_of_ble_eq_true rfl) ?_
  intro p e s m below meth c ls C hw hT hS hl
  obtain ⟨hx, hb, hr, hml, hown, hts, hlk⟩ := C
  have hl : lv_has ls 2 [(0, .int (nI a)), (1, .int (nI b))] := hl
  refine lv_iload_n hx hb dX3_pairCode_0 rfl (lv_at hl 0 rfl) ?_
  refine lv_iload_n hx hb dX3_pairCode_1 rfl (lv_at hl 1 rfl) ?_
  refine lv_icmp_ge (tgt := 15) hx hb dX3_pairCode_2 (by decide) (fun h1 => ?_) (fun h1 => ?_)
  · skip
    have h1 : b ≤ a := (nI_leI (by omega) (by omega)).mp h1
    refine lv_iload_n hx hb dX3_pairCode_15 rfl (lv_at hl 1 rfl) ?_
    refine lv_sipush (v := nI 512) hx hb dX3_pairCode_16 (by decide) ?_
    refine lv_imul hx hb dX3_pairCode_19 ?_
    refine top_i (y := nI (b * 512)) (pk_mul b 512) ?_
    refine lv_iload_n hx hb dX3_pairCode_20 rfl (lv_at hl 0 rfl) ?_
    refine lv_iadd hx hb dX3_pairCode_21 ?_
    refine top_i (y := nI (b * 512 + a)) (nI_add (b * 512) a) ?_
    exact ri hx hb hlk hr hw hS (by rw [show pcode a b = b * 512 + a from by unfold pcode; rw [if_neg (by omega)]]) (vp_nar_int _) (Nat.le_of_ble_eq_true rfl) (Nat.le_of_ble_eq_true rfl) dX3_pairCode_22
  · skip
    have h1 : ¬ b ≤ a := fun z => h1 ((nI_leI (by omega) (by omega)).mpr z)
    refine lv_iload_n hx hb dX3_pairCode_5 rfl (lv_at hl 0 rfl) ?_
    refine lv_sipush (v := nI 512) hx hb dX3_pairCode_6 (by decide) ?_
    refine lv_imul hx hb dX3_pairCode_9 ?_
    refine top_i (y := nI (a * 512)) (pk_mul a 512) ?_
    refine lv_iload_n hx hb dX3_pairCode_10 rfl (lv_at hl 1 rfl) ?_
    refine lv_iadd hx hb dX3_pairCode_11 ?_
    refine top_i (y := nI (a * 512 + b)) (nI_add (a * 512) b) ?_
    refine lv_goto (tgt := 22) hx hb dX3_pairCode_12 (by decide) ?_
    exact ri hx hb hlk hr hw hS (by rw [show pcode a b = a * 512 + b from by unfold pcode; rw [if_pos (by omega)]]) (vp_nar_int _) (Nat.le_of_ble_eq_true rfl) (Nat.le_of_ble_eq_true rfl) dX3_pairCode_22
set_option maxRecDepth 100000 in
set_option maxHeartbeats 4000000 in
theorem c_requireGood (l : Launch) (G : Gm) (S : St) (hl0 : l.stackTraces = false) (x y z : UInt32) : Tv l yX3_requireGood wsX3_requireGood ({ frames := 6, cells := 1, slots := 6, locals := 82 } : Room) [.float x, .float y, .float z] G S (goodX x y z) S S := by
  refine entX (cc := cX3_requireGood) (maxL := 3) (ret := none) (by decide) rfl (Nat.le_of_ble_eq_true rfl) ?_
  intro p e s m below meth c ls C hw hT hS hte hl
  obtain ⟨hx, hb, hr, hml, hown, hts, hlk⟩ := C
  have hz1 := hw.2.2.2.2.1
  have hz2 := hw.2.2.2.2.2
  have hl : lv_has ls 3 [(0, .float x), (1, .float y), (2, .float z)] := hl
  refine lv_fload_n hx hb dX3_requireGood_0 rfl (lv_at hl 0 rfl) ?_
  refine lv_sipush (v := nI 16384) hx hb dX3_requireGood_1 (by decide) ?_
  refine cSi ⟨hx, hb, hml, hown, hts⟩ (c_isWithin l G S x (nI 16384)) (va_cwS 2 hts gX3_requireGood_X3_isWithin rfl rfl rfl (by decide +kernel) ⟨(Nat.le_of_ble_eq_true rfl), (Nat.le_of_ble_eq_true rfl)⟩) hw hT hS (As := [.float x, .int (nI 16384)]) (rest := []) rfl hl.1 rfl (Nat.le_of_ble_eq_true rfl) dX3_requireGood_4 ⟨(Nat.le_of_ble_eq_true rfl), (Nat.le_of_ble_eq_true rfl)⟩ (fun H locs hw hS => ?_)
  refine lv_if_eq (tgt := 30) hx hb dX3_requireGood_7 (by decide) (fun h1 => ?_) (fun h1 => ?_)
  · skip
    have h1 := bI_0.mp h1
    exact thrA hx hb hl0 hown hts hlk hml hl.1 hw hT hS hte (by simp [goodX, h1]) (List.mem_of_getElem? (i := 1) rfl) (List.mem_of_getElem? (i := 2) rfl) (fun _ h => List.mem_cons_of_mem _ (List.mem_append_right _ h)) (List.mem_of_getElem? (i := 6) rfl) hS.1 dX3_requireGood_30 dX3_requireGood_33 dX3_requireGood_34 dX3_requireGood_36 dX3_requireGood_39 (Nat.le_of_ble_eq_true rfl) (Nat.le_of_ble_eq_true rfl) (Nat.le_of_ble_eq_true rfl) (Nat.le_of_ble_eq_true rfl) (Nat.le_of_ble_eq_true rfl) (Nat.le_of_ble_eq_true rfl) hz1 hz2
  · skip
    have h1 := bI_n0.mp h1
    refine lv_fload_n hx hb dX3_requireGood_10 rfl (lv_at hl 1 rfl) ?_
    refine lv_sipush (v := nI 16384) hx hb dX3_requireGood_11 (by decide) ?_
    refine cSi ⟨hx, hb, hml, hown, hts⟩ (c_isWithin l G S y (nI 16384)) (va_cwS 2 hts gX3_requireGood_X3_isWithin rfl rfl rfl (by decide +kernel) ⟨(Nat.le_of_ble_eq_true rfl), (Nat.le_of_ble_eq_true rfl)⟩) hw hT hS (As := [.float y, .int (nI 16384)]) (rest := []) rfl hl.1 rfl (Nat.le_of_ble_eq_true rfl) dX3_requireGood_14 ⟨(Nat.le_of_ble_eq_true rfl), (Nat.le_of_ble_eq_true rfl)⟩ (fun H locs hw hS => ?_)
    refine lv_if_eq (tgt := 30) hx hb dX3_requireGood_17 (by decide) (fun h2 => ?_) (fun h2 => ?_)
    · skip
      have h2 := bI_0.mp h2
      exact thrA hx hb hl0 hown hts hlk hml hl.1 hw hT hS hte (by simp [goodX, h1, h2]) (List.mem_of_getElem? (i := 1) rfl) (List.mem_of_getElem? (i := 2) rfl) (fun _ h => List.mem_cons_of_mem _ (List.mem_append_right _ h)) (List.mem_of_getElem? (i := 6) rfl) hS.1 dX3_requireGood_30 dX3_requireGood_33 dX3_requireGood_34 dX3_requireGood_36 dX3_requireGood_39 (Nat.le_of_ble_eq_true rfl) (Nat.le_of_ble_eq_true rfl) (Nat.le_of_ble_eq_true rfl) (Nat.le_of_ble_eq_true rfl) (Nat.le_of_ble_eq_true rfl) (Nat.le_of_ble_eq_true rfl) hz1 hz2
    · skip
      have h2 := bI_n0.mp h2
      refine lv_fload_n hx hb dX3_requireGood_20 rfl (lv_at hl 2 rfl) ?_
      refine lv_sipush (v := nI 16384) hx hb dX3_requireGood_21 (by decide) ?_
      refine cSi ⟨hx, hb, hml, hown, hts⟩ (c_isWithin l G S z (nI 16384)) (va_cwS 2 hts gX3_requireGood_X3_isWithin rfl rfl rfl (by decide +kernel) ⟨(Nat.le_of_ble_eq_true rfl), (Nat.le_of_ble_eq_true rfl)⟩) hw hT hS (As := [.float z, .int (nI 16384)]) (rest := []) rfl hl.1 rfl (Nat.le_of_ble_eq_true rfl) dX3_requireGood_24 ⟨(Nat.le_of_ble_eq_true rfl), (Nat.le_of_ble_eq_true rfl)⟩ (fun H locs hw hS => ?_)
      refine lv_if_ne (tgt := 40) hx hb dX3_requireGood_27 (by decide) (fun h3 => ?_) (fun h3 => ?_)
      · skip
        have h3 := bI_n0.mp h3
        exact rvx hx hb hlk hr hw hS (by simp [goodX, h1, h2, h3]) (Nat.le_of_ble_eq_true rfl) (Nat.le_of_ble_eq_true rfl) dX3_requireGood_40
      · skip
        have h3 := bI_0.mp h3
        exact thrA hx hb hl0 hown hts hlk hml hl.1 hw hT hS hte (by simp [goodX, h1, h2, h3]) (List.mem_of_getElem? (i := 1) rfl) (List.mem_of_getElem? (i := 2) rfl) (fun _ h => List.mem_cons_of_mem _ (List.mem_append_right _ h)) (List.mem_of_getElem? (i := 6) rfl) hS.1 dX3_requireGood_30 dX3_requireGood_33 dX3_requireGood_34 dX3_requireGood_36 dX3_requireGood_39 (Nat.le_of_ble_eq_true rfl) (Nat.le_of_ble_eq_true rfl) (Nat.le_of_ble_eq_true rfl) (Nat.le_of_ble_eq_true rfl) (Nat.le_of_ble_eq_true rfl) (Nat.le_of_ble_eq_true rfl) hz1 hz2
set_option maxRecDepth 100000 in
set_option maxHeartbeats 4000000 in
theorem c_requireMovement (l : Launch) (G : Gm) (S : St) (hl0 : l.stackTraces = false) (x y z : UInt32) : Tv l yX3_requireMovement wsX3_requireMovement ({ frames := 6, cells := 1, slots := 6, locals := 82 } : Room) [.float x, .float y, .float z] G S (movX x y z) S S := by
  refine entX (cc := cX3_requireMovement) (maxL := 3) (ret := none) (by decide) rfl (Nat.le_of_ble_eq_true rfl) ?_
  intro p e s m below meth c ls C hw hT hS hte hl
  obtain ⟨hx, hb, hr, hml, hown, hts, hlk⟩ := C
  have hz1 := hw.2.2.2.2.1
  have hz2 := hw.2.2.2.2.2
  have hl : lv_has ls 3 [(0, .float x), (1, .float y), (2, .float z)] := hl
  refine lv_fload_n hx hb dX3_requireMovement_0 rfl (lv_at hl 0 rfl) ?_
  refine lv_sipush (v := nI 256) hx hb dX3_requireMovement_1 (by decide) ?_
  refine cSi ⟨hx, hb, hml, hown, hts⟩ (c_isWithin l G S x (nI 256)) (va_cwS 2 hts gX3_requireMovement_X3_isWithin rfl rfl rfl (by decide +kernel) ⟨(Nat.le_of_ble_eq_true rfl), (Nat.le_of_ble_eq_true rfl)⟩) hw hT hS (As := [.float x, .int (nI 256)]) (rest := []) rfl hl.1 rfl (Nat.le_of_ble_eq_true rfl) dX3_requireMovement_4 ⟨(Nat.le_of_ble_eq_true rfl), (Nat.le_of_ble_eq_true rfl)⟩ (fun H locs hw hS => ?_)
  refine lv_if_eq (tgt := 30) hx hb dX3_requireMovement_7 (by decide) (fun h1 => ?_) (fun h1 => ?_)
  · skip
    have h1 := bI_0.mp h1
    exact thrA hx hb hl0 hown hts hlk hml hl.1 hw hT hS hte (by simp [movX, mvB, h1]) (List.mem_of_getElem? (i := 1) rfl) (List.mem_of_getElem? (i := 2) rfl) (fun _ h => List.mem_cons_of_mem _ (List.mem_append_right _ h)) (List.mem_of_getElem? (i := 7) rfl) hS.1 dX3_requireMovement_30 dX3_requireMovement_33 dX3_requireMovement_34 dX3_requireMovement_36 dX3_requireMovement_39 (Nat.le_of_ble_eq_true rfl) (Nat.le_of_ble_eq_true rfl) (Nat.le_of_ble_eq_true rfl) (Nat.le_of_ble_eq_true rfl) (Nat.le_of_ble_eq_true rfl) (Nat.le_of_ble_eq_true rfl) hz1 hz2
  · skip
    have h1 := bI_n0.mp h1
    refine lv_fload_n hx hb dX3_requireMovement_10 rfl (lv_at hl 1 rfl) ?_
    refine lv_sipush (v := nI 256) hx hb dX3_requireMovement_11 (by decide) ?_
    refine cSi ⟨hx, hb, hml, hown, hts⟩ (c_isWithin l G S y (nI 256)) (va_cwS 2 hts gX3_requireMovement_X3_isWithin rfl rfl rfl (by decide +kernel) ⟨(Nat.le_of_ble_eq_true rfl), (Nat.le_of_ble_eq_true rfl)⟩) hw hT hS (As := [.float y, .int (nI 256)]) (rest := []) rfl hl.1 rfl (Nat.le_of_ble_eq_true rfl) dX3_requireMovement_14 ⟨(Nat.le_of_ble_eq_true rfl), (Nat.le_of_ble_eq_true rfl)⟩ (fun H locs hw hS => ?_)
    refine lv_if_eq (tgt := 30) hx hb dX3_requireMovement_17 (by decide) (fun h2 => ?_) (fun h2 => ?_)
    · skip
      have h2 := bI_0.mp h2
      exact thrA hx hb hl0 hown hts hlk hml hl.1 hw hT hS hte (by simp [movX, mvB, h1, h2]) (List.mem_of_getElem? (i := 1) rfl) (List.mem_of_getElem? (i := 2) rfl) (fun _ h => List.mem_cons_of_mem _ (List.mem_append_right _ h)) (List.mem_of_getElem? (i := 7) rfl) hS.1 dX3_requireMovement_30 dX3_requireMovement_33 dX3_requireMovement_34 dX3_requireMovement_36 dX3_requireMovement_39 (Nat.le_of_ble_eq_true rfl) (Nat.le_of_ble_eq_true rfl) (Nat.le_of_ble_eq_true rfl) (Nat.le_of_ble_eq_true rfl) (Nat.le_of_ble_eq_true rfl) (Nat.le_of_ble_eq_true rfl) hz1 hz2
    · skip
      have h2 := bI_n0.mp h2
      refine lv_fload_n hx hb dX3_requireMovement_20 rfl (lv_at hl 2 rfl) ?_
      refine lv_sipush (v := nI 256) hx hb dX3_requireMovement_21 (by decide) ?_
      refine cSi ⟨hx, hb, hml, hown, hts⟩ (c_isWithin l G S z (nI 256)) (va_cwS 2 hts gX3_requireMovement_X3_isWithin rfl rfl rfl (by decide +kernel) ⟨(Nat.le_of_ble_eq_true rfl), (Nat.le_of_ble_eq_true rfl)⟩) hw hT hS (As := [.float z, .int (nI 256)]) (rest := []) rfl hl.1 rfl (Nat.le_of_ble_eq_true rfl) dX3_requireMovement_24 ⟨(Nat.le_of_ble_eq_true rfl), (Nat.le_of_ble_eq_true rfl)⟩ (fun H locs hw hS => ?_)
      refine lv_if_ne (tgt := 40) hx hb dX3_requireMovement_27 (by decide) (fun h3 => ?_) (fun h3 => ?_)
      · skip
        have h3 := bI_n0.mp h3
        exact rvx hx hb hlk hr hw hS (by simp [movX, mvB, h1, h2, h3]) (Nat.le_of_ble_eq_true rfl) (Nat.le_of_ble_eq_true rfl) dX3_requireMovement_40
      · skip
        have h3 := bI_0.mp h3
        exact thrA hx hb hl0 hown hts hlk hml hl.1 hw hT hS hte (by simp [movX, mvB, h1, h2, h3]) (List.mem_of_getElem? (i := 1) rfl) (List.mem_of_getElem? (i := 2) rfl) (fun _ h => List.mem_cons_of_mem _ (List.mem_append_right _ h)) (List.mem_of_getElem? (i := 7) rfl) hS.1 dX3_requireMovement_30 dX3_requireMovement_33 dX3_requireMovement_34 dX3_requireMovement_36 dX3_requireMovement_39 (Nat.le_of_ble_eq_true rfl) (Nat.le_of_ble_eq_true rfl) (Nat.le_of_ble_eq_true rfl) (Nat.le_of_ble_eq_true rfl) (Nat.le_of_ble_eq_true rfl) (Nat.le_of_ble_eq_true rfl) hz1 hz2
set_option maxRecDepth 100000 in
set_option maxHeartbeats 4000000 in
theorem c_requirePadIsBox (l : Launch) (G : Gm) (S : St) (hl0 : l.stackTraces = false)  : Tv l yX3_requirePadIsBox wsX3_requirePadIsBox ({ frames := 6, cells := 1, slots := 6, locals := 82 } : Room) [.ref (g_ad G 0 0)] G S (padX S) S S := by
  refine entX (cc := cX3_requirePadIsBox) (maxL := 1) (ret := none) (by decide) rfl (Nat.le_of_ble_eq_true rfl) ?_
  intro p e s m below meth c ls C hw hT hS hte hl
  obtain ⟨hx, hb, hr, hml, hown, hts, hlk⟩ := C
  have hz1 := hw.2.2.2.2.1
  have hz2 := hw.2.2.2.2.2
  have hl : lv_has ls 1 [(0, .ref (g_ad G 0 0))] := hl
  refine lv_aload_n hx hb dX3_requirePadIsBox_0 rfl (lv_at hl 0 rfl) ?_
  refine gf hx hb hown hts hw hT 0 0 (by decide) (ci := 3) rfl rfl (fun _ h => List.mem_cons_of_mem _ (List.mem_append_left _ (List.mem_append_left _ (List.mem_append_right _ h)))) 0 (by decide) (List.mem_of_getElem? (i := 3) rfl) (v := .ref (g_ad G 1 0)) rfl dX3_requirePadIsBox_1 ?_
  refine cVi ⟨hx, hb, hml, hown, hts⟩ (c_isBox l G S 0 (by decide)) (cwV 0 hts gX3_requirePadIsBox_X1_isBox rfl rfl rfl (by decide +kernel) ⟨(Nat.le_of_ble_eq_true rfl), (Nat.le_of_ble_eq_true rfl)⟩) hw hT hS (rcv hw hT 1 0 (by decide) rfl rfl) (As := []) (rest := []) rfl hl.1 rfl (Nat.le_of_ble_eq_true rfl) dX3_requirePadIsBox_4 ⟨(Nat.le_of_ble_eq_true rfl), (Nat.le_of_ble_eq_true rfl)⟩ (fun H locs hw hS => ?_)
  refine lv_if_ne (tgt := 20) hx hb dX3_requirePadIsBox_7 (by decide) (fun h1 => ?_) (fun h1 => ?_)
  · skip
    have h1 := bI_n0.mp h1
    exact rvx hx hb hlk hr hw hS (by simp [padX, h1]) (Nat.le_of_ble_eq_true rfl) (Nat.le_of_ble_eq_true rfl) dX3_requirePadIsBox_20
  · skip
    have h1 := bI_0.mp h1
    exact thrA hx hb hl0 hown hts hlk hml hl.1 hw hT hS hte (by simp [padX, h1]) (List.mem_of_getElem? (i := 1) rfl) (List.mem_of_getElem? (i := 2) rfl) (fun _ h => List.mem_cons_of_mem _ (List.mem_append_right _ h)) (List.mem_of_getElem? (i := 8) rfl) hS.1 dX3_requirePadIsBox_10 dX3_requirePadIsBox_13 dX3_requirePadIsBox_14 dX3_requirePadIsBox_16 dX3_requirePadIsBox_19 (Nat.le_of_ble_eq_true rfl) (Nat.le_of_ble_eq_true rfl) (Nat.le_of_ble_eq_true rfl) (Nat.le_of_ble_eq_true rfl) (Nat.le_of_ble_eq_true rfl) (Nat.le_of_ble_eq_true rfl) hz1 hz2
set_option maxRecDepth 100000 in
set_option maxHeartbeats 4000000 in
theorem c_requireRoomFor (l : Launch) (G : Gm) (S : St) (hl0 : l.stackTraces = false) (n : Int32) : Tv l yX3_requireRoomFor wsX3_requireRoomFor ({ frames := 6, cells := 1, slots := 6, locals := 82 } : Room) [.ref (g_ad G 0 0), .int n] G S (roomX S n) S S := by
  refine entX (cc := cX3_requireRoomFor) (maxL := 2) (ret := none) (by decide) rfl (Nat.le_of_ble_eq_true rfl) ?_
  intro p e s m below meth c ls C hw hT hS hte hl
  obtain ⟨hx, hb, hr, hml, hown, hts, hlk⟩ := C
  have hz1 := hw.2.2.2.2.1
  have hz2 := hw.2.2.2.2.2
  have hl : lv_has ls 2 [(0, .ref (g_ad G 0 0)), (1, .int n)] := hl
  refine lv_sipush (v := nI 512) hx hb dX3_requireRoomFor_0 (by decide) ?_
  refine lv_aload_n hx hb dX3_requireRoomFor_3 rfl (lv_at hl 0 rfl) ?_
  refine gf hx hb hown hts hw hT 0 0 (by decide) (ci := 3) rfl rfl (fun _ h => List.mem_cons_of_mem _ (List.mem_append_left _ (List.mem_append_right _ h))) 2 (by decide) (List.mem_of_getElem? (i := 3) rfl) (v := .int (nfS S 0)) rfl dX3_requireRoomFor_4 ?_
  refine lv_isub hx hb dX3_requireRoomFor_7 ?_
  refine lv_iload_n hx hb dX3_requireRoomFor_8 rfl (lv_at hl 1 rfl) ?_
  refine lv_icmp_ge (tgt := 22) hx hb dX3_requireRoomFor_9 (by decide) (fun h1 => ?_) (fun h1 => ?_)
  · skip
    have h1 : ¬ ((nI 512) - (nfS S 0)) < n := Int32.not_lt.mpr h1
    exact rvx hx hb hlk hr hw hS (by simp [roomX, h1]) (Nat.le_of_ble_eq_true rfl) (Nat.le_of_ble_eq_true rfl) dX3_requireRoomFor_22
  · skip
    have h1 : ((nI 512) - (nfS S 0)) < n := Int32.not_le.mp h1
    exact thrS hx hb hl0 hown hts hlk hml hl.1 hw hT hS hte (by simp [roomX, h1]) (List.mem_of_getElem? (i := 1) rfl) (List.mem_of_getElem? (i := 2) rfl) (fun _ h => List.mem_cons_of_mem _ (List.mem_append_right _ h)) (List.mem_of_getElem? (i := 9) rfl) hS.1 dX3_requireRoomFor_12 dX3_requireRoomFor_15 dX3_requireRoomFor_16 dX3_requireRoomFor_18 dX3_requireRoomFor_21 (Nat.le_of_ble_eq_true rfl) (Nat.le_of_ble_eq_true rfl) (Nat.le_of_ble_eq_true rfl) (Nat.le_of_ble_eq_true rfl) (Nat.le_of_ble_eq_true rfl) (Nat.le_of_ble_eq_true rfl) hz1 hz2
set_option maxRecDepth 100000 in
set_option maxHeartbeats 4000000 in
theorem c_requireThere (l : Launch) (G : Gm) (S : St) (hl0 : l.stackTraces = false) (k : Int32) : Tv l yX3_requireThere wsX3_requireThere ({ frames := 6, cells := 1, slots := 6, locals := 82 } : Room) [.ref (g_ad G 0 0), .int k] G S (thereX S k) S S := by
  refine entX (cc := cX3_requireThere) (maxL := 2) (ret := none) (by decide) rfl (Nat.le_of_ble_eq_true rfl) ?_
  intro p e s m below meth c ls C hw hT hS hte hl
  obtain ⟨hx, hb, hr, hml, hown, hts, hlk⟩ := C
  have hz1 := hw.2.2.2.2.1
  have hz2 := hw.2.2.2.2.2
  have hl : lv_has ls 2 [(0, .ref (g_ad G 0 0)), (1, .int k)] := hl
  refine lv_iload_n hx hb dX3_requireThere_0 rfl (lv_at hl 1 rfl) ?_
  refine cSi ⟨hx, hb, hml, hown, hts⟩ (c_isBodyNumber l G S k) (va_cwS 1 hts gX3_requireThere_X3_isBodyNumber rfl rfl rfl (by decide +kernel) ⟨(Nat.le_of_ble_eq_true rfl), (Nat.le_of_ble_eq_true rfl)⟩) hw hT hS (As := [.int k]) (rest := []) rfl hl.1 rfl (Nat.le_of_ble_eq_true rfl) dX3_requireThere_1 ⟨(Nat.le_of_ble_eq_true rfl), (Nat.le_of_ble_eq_true rfl)⟩ (fun H locs hw hS => ?_)
  refine lv_if_eq (tgt := 19) hx hb dX3_requireThere_4 (by decide) (fun h1 => ?_) (fun h1 => ?_)
  · skip
    have h1 := bI_0.mp h1
    exact thrI hx hb hl0 hown hts hlk hml hl.1 hw hT hS hte (by simp [thereX, knI, h1]) (List.mem_of_getElem? (i := 1) rfl) (List.mem_of_getElem? (i := 2) rfl) (fun _ h => List.mem_cons_of_mem _ (List.mem_append_right _ h)) (List.mem_of_getElem? (i := 10) rfl) hS.1 dX3_requireThere_19 dX3_requireThere_22 dX3_requireThere_23 dX3_requireThere_25 dX3_requireThere_28 (Nat.le_of_ble_eq_true rfl) (Nat.le_of_ble_eq_true rfl) (Nat.le_of_ble_eq_true rfl) (Nat.le_of_ble_eq_true rfl) (Nat.le_of_ble_eq_true rfl) (Nat.le_of_ble_eq_true rfl) hz1 hz2
  · skip
    have h1 := bI_n0.mp h1
    obtain ⟨j, hj, rfl⟩ := bn_nat h1
    refine lv_aload_n hx hb dX3_requireThere_7 rfl (lv_at hl 0 rfl) ?_
    refine gf hx hb hown hts hw hT 0 0 (by decide) (ci := 3) rfl rfl (fun _ h => List.mem_cons_of_mem _ (List.mem_append_left _ (List.mem_append_left _ (List.mem_append_right _ h)))) 1 (by decide) (List.mem_of_getElem? (i := 3) rfl) (v := .ref (g_ad G 3 0)) rfl dX3_requireThere_8 ?_
    refine lv_iload_n hx hb dX3_requireThere_11 rfl (lv_at hl 1 rfl) ?_
    refine abl hx hb hw hT j (show j < 512 by omega) dX3_requireThere_12 ?_
    refine gf hx hb hown hts hw hT 4 j (show j < 512 by omega) (ci := 0) rfl rfl (fun _ h => List.mem_cons_of_mem _ (List.mem_append_left _ (List.mem_append_right _ h))) 4 (by decide) (List.mem_of_getElem? (i := 4) rfl) (v := .int (bI (thS S j))) rfl dX3_requireThere_13 ?_
    refine lv_if_ne (tgt := 29) hx hb dX3_requireThere_16 (by decide) (fun h2 => ?_) (fun h2 => ?_)
    · skip
      have h2 := bI_n0.mp h2
      exact rvx hx hb hlk hr hw hS (by simp [thereX, knI, kN_nI (show j < 65536 by omega), h1, h2]) (Nat.le_of_ble_eq_true rfl) (Nat.le_of_ble_eq_true rfl) dX3_requireThere_29
    · skip
      have h2 := bI_0.mp h2
      exact thrI hx hb hl0 hown hts hlk hml hl.1 hw hT hS hte (by simp [thereX, knI, kN_nI (show j < 65536 by omega), h1, h2]) (List.mem_of_getElem? (i := 1) rfl) (List.mem_of_getElem? (i := 2) rfl) (fun _ h => List.mem_cons_of_mem _ (List.mem_append_right _ h)) (List.mem_of_getElem? (i := 10) rfl) hS.1 dX3_requireThere_19 dX3_requireThere_22 dX3_requireThere_23 dX3_requireThere_25 dX3_requireThere_28 (Nat.le_of_ble_eq_true rfl) (Nat.le_of_ble_eq_true rfl) (Nat.le_of_ble_eq_true rfl) (Nat.le_of_ble_eq_true rfl) (Nat.le_of_ble_eq_true rfl) (Nat.le_of_ble_eq_true rfl) hz1 hz2
set_option maxRecDepth 100000 in
set_option maxHeartbeats 4000000 in
theorem c_requireFound (l : Launch) (G : Gm) (S : St) (hl0 : l.stackTraces = false) (k : Int32) : Tv l yX3_requireFound wsX3_requireFound ({ frames := 6, cells := 1, slots := 6, locals := 82 } : Room) [.ref (g_ad G 0 0), .int k] G S (foundX S k) S S := by
  refine entX (cc := cX3_requireFound) (maxL := 2) (ret := none) (by decide) rfl (Nat.le_of_ble_eq_true rfl) ?_
  intro p e s m below meth c ls C hw hT hS hte hl
  obtain ⟨hx, hb, hr, hml, hown, hts, hlk⟩ := C
  have hz1 := hw.2.2.2.2.1
  have hz2 := hw.2.2.2.2.2
  have hl : lv_has ls 2 [(0, .ref (g_ad G 0 0)), (1, .int k)] := hl
  refine lv_iload_n hx hb dX3_requireFound_0 rfl (lv_at hl 1 rfl) ?_
  refine lv_if_lt (tgt := 12) hx hb dX3_requireFound_1 (by decide) (fun h1 => ?_) (fun h1 => ?_)
  · skip
    exact thrI hx hb hl0 hown hts hlk hml hl.1 hw hT hS hte (by simp [foundX, h1]) (List.mem_of_getElem? (i := 1) rfl) (List.mem_of_getElem? (i := 2) rfl) (fun _ h => List.mem_cons_of_mem _ (List.mem_append_right _ h)) (List.mem_of_getElem? (i := 11) rfl) hS.1 dX3_requireFound_12 dX3_requireFound_15 dX3_requireFound_16 dX3_requireFound_18 dX3_requireFound_21 (Nat.le_of_ble_eq_true rfl) (Nat.le_of_ble_eq_true rfl) (Nat.le_of_ble_eq_true rfl) (Nat.le_of_ble_eq_true rfl) (Nat.le_of_ble_eq_true rfl) (Nat.le_of_ble_eq_true rfl) hz1 hz2
  · skip
    refine lv_iload_n hx hb dX3_requireFound_4 rfl (lv_at hl 1 rfl) ?_
    refine lv_aload_n hx hb dX3_requireFound_5 rfl (lv_at hl 0 rfl) ?_
    refine gf hx hb hown hts hw hT 0 0 (by decide) (ci := 3) rfl rfl (fun _ h => List.mem_cons_of_mem _ (List.mem_append_left _ (List.mem_append_right _ h))) 10 (by decide) (List.mem_of_getElem? (i := 3) rfl) (v := .int (nfS S 2)) rfl dX3_requireFound_6 ?_
    refine lv_icmp_lt (tgt := 22) hx hb dX3_requireFound_9 (by decide) (fun h2 => ?_) (fun h2 => ?_)
    · skip
      exact rvx hx hb hlk hr hw hS (by simp [foundX, h1, h2]) (Nat.le_of_ble_eq_true rfl) (Nat.le_of_ble_eq_true rfl) dX3_requireFound_22
    · skip
      exact thrI hx hb hl0 hown hts hlk hml hl.1 hw hT hS hte (by simp [foundX, h1, h2]) (List.mem_of_getElem? (i := 1) rfl) (List.mem_of_getElem? (i := 2) rfl) (fun _ h => List.mem_cons_of_mem _ (List.mem_append_right _ h)) (List.mem_of_getElem? (i := 11) rfl) hS.1 dX3_requireFound_12 dX3_requireFound_15 dX3_requireFound_16 dX3_requireFound_18 dX3_requireFound_21 (Nat.le_of_ble_eq_true rfl) (Nat.le_of_ble_eq_true rfl) (Nat.le_of_ble_eq_true rfl) (Nat.le_of_ble_eq_true rfl) (Nat.le_of_ble_eq_true rfl) (Nat.le_of_ble_eq_true rfl) hz1 hz2
end
section
/-! PairFinder: its private methods with loops -/
set_option maxRecDepth 100000 in
set_option maxHeartbeats 4000000 in
theorem c_appendFound (l : Launch) (G : Gm) (S : St) (b : Nat) (x : UInt32) (c9 : Nat) (hc : nfS S 2 = nI c9) (hc5 : c9 < 512) : Pv l yX3_appendFound wsX3_appendFound ({ frames := 0, cells := 0, slots := 0, locals := 0 } : Room) [.ref (g_ad G 0 0), .int (nI b), .float x] G S (fnS S c9 b x) := by
  refine ent (cc := cX3_appendFound) (maxL := 3) (ret := none) (by decide) rfl (Nat.le_of_ble_eq_true rfl) ?_
  intro p e s m below meth c ls C hw hT hS hl
  obtain ⟨hx, hb, hr, hml, hown, hts, hlk⟩ := C
  have hl : lv_has ls 3 [(0, .ref (g_ad G 0 0)), (1, .int (nI b)), (2, .float x)] := hl
  refine lv_aload_n hx hb dX3_appendFound_0 rfl (lv_at hl 0 rfl) ?_
  refine gf hx hb hown hts hw hT 0 0 (by decide) (ci := 3) rfl rfl (fun _ h => List.mem_cons_of_mem _ (List.mem_append_right _ h)) 10 (by decide) (List.mem_of_getElem? (i := 1) rfl) (v := .int (nfS S 2)) rfl dX3_appendFound_1 ?_
  refine top_i (y := nI c9) hc ?_
  refine lv_sipush (v := nI 512) hx hb dX3_appendFound_4 (by decide) ?_
  refine lv_icmp_ge (tgt := 40) hx hb dX3_appendFound_7 (by decide) (fun q => absurd q (nI_ge hc5 (by decide))) (fun _ => ?_)
  refine lv_aload_n hx hb dX3_appendFound_10 rfl (lv_at hl 0 rfl) ?_
  refine gf hx hb hown hts hw hT 0 0 (by decide) (ci := 3) rfl rfl (fun _ h => List.mem_cons_of_mem _ (List.mem_append_right _ h)) 8 (by decide) (List.mem_of_getElem? (i := 2) rfl) (v := .ref (g_ad G 7 0)) rfl dX3_appendFound_11 ?_
  refine lv_aload_n hx hb dX3_appendFound_14 rfl (lv_at hl 0 rfl) ?_
  refine gf hx hb hown hts hw hT 0 0 (by decide) (ci := 3) rfl rfl (fun _ h => List.mem_cons_of_mem _ (List.mem_append_right _ h)) 10 (by decide) (List.mem_of_getElem? (i := 1) rfl) (v := .int (nfS S 2)) rfl dX3_appendFound_15 ?_
  refine top_i (y := nI c9) hc ?_
  refine lv_iload_n hx hb dX3_appendFound_18 rfl (lv_at hl 1 rfl) ?_
  refine ais (S' := (fbU S (va_up (fbS S) c9 (nI b)))) hx hb hw hT hS 7 0 (by decide) (f := fbS S) rfl c9 (show c9 < 512 by omega) (by decide) (mup_fb G S (va_up (fbS S) c9 (nI b))) dX3_appendFound_19 (fun H locs hw hS => ?_)
  refine lv_aload_n hx hb dX3_appendFound_20 rfl (lv_at hl 0 rfl) ?_
  refine gf hx hb hown hts hw hT 0 0 (by decide) (ci := 3) rfl rfl (fun _ h => List.mem_cons_of_mem _ (List.mem_append_right _ h)) 9 (by decide) (List.mem_of_getElem? (i := 3) rfl) (v := .ref (g_ad G 8 0)) rfl dX3_appendFound_21 ?_
  refine lv_aload_n hx hb dX3_appendFound_24 rfl (lv_at hl 0 rfl) ?_
  refine gf hx hb hown hts hw hT 0 0 (by decide) (ci := 3) rfl rfl (fun _ h => List.mem_cons_of_mem _ (List.mem_append_right _ h)) 10 (by decide) (List.mem_of_getElem? (i := 1) rfl) (v := .int (nfS S 2)) rfl dX3_appendFound_25 ?_
  refine top_i (y := nI c9) hc ?_
  refine lv_fload_n hx hb dX3_appendFound_28 rfl (lv_at hl 2 rfl) ?_
  refine afs (S' := (ffU (fbU S (va_up (fbS S) c9 (nI b))) (va_up (ffS S) c9 x))) hx hb hw hT hS 8 0 (by decide) (f := ffS S) rfl c9 (show c9 < 512 by omega) (by decide) (mup_ff G (fbU S (va_up (fbS S) c9 (nI b))) (va_up (ffS S) c9 x)) dX3_appendFound_29 (fun H locs hw hS => ?_)
  refine lv_aload_n hx hb dX3_appendFound_30 rfl (lv_at hl 0 rfl) ?_
  refine lv_dup hx hb dX3_appendFound_31 rfl ?_
  refine gf hx hb hown hts hw hT 0 0 (by decide) (ci := 3) rfl rfl (fun _ h => List.mem_cons_of_mem _ (List.mem_append_right _ h)) 10 (by decide) (List.mem_of_getElem? (i := 1) rfl) (v := .int (nfS S 2)) rfl dX3_appendFound_32 ?_
  refine top_i (y := nI c9) hc ?_
  refine lv_iconst (v := nI 1) hx hb dX3_appendFound_35 (by decide) ?_
  refine lv_iadd hx hb dX3_appendFound_36 ?_
  refine top_i (y := nI (c9 + 1)) (nI_add c9 1) ?_
  refine pf (S' := (nfU (ffU (fbU S (va_up (fbS S) c9 (nI b))) (va_up (ffS S) c9 x)) (va_up (nfS (ffU (fbU S (va_up (fbS S) c9 (nI b))) (va_up (ffS S) c9 x))) 2 (nI (c9 + 1))))) hx hb hown hts hw hT hS 0 0 (by decide) (ci := 3) rfl rfl (fun _ h => List.mem_cons_of_mem _ (List.mem_append_right _ h)) tyX3 tyX3_ok nmX3 10 (by decide) (List.mem_of_getElem? (i := 1) rfl) rfl (ty := .int) (by decide +kernel) (vp_nar_int _) rfl (Nat.le_of_ble_eq_true rfl) (mup_nf2 G (ffU (fbU S (va_up (fbS S) c9 (nI b))) (va_up (ffS S) c9 x)) (nI (c9 + 1))) dX3_appendFound_37 (fun H locs hw hS => ?_)
  exact rv hx hb hlk hr hw hS  (Nat.le_of_ble_eq_true rfl) (Nat.le_of_ble_eq_true rfl) dX3_appendFound_40
set_option maxRecDepth 100000 in
set_option maxHeartbeats 4000000 in
theorem c_arePair (l : Launch) (G : Gm) (S : St) (hi1 : (ipS S).1 < 4) (hi2 : (ipS S).2 < 4) (a : Nat) (ha : a < 512) (b : Nat) (hb5 : b < 512) : Pi l yX3_arePair wsX3_arePair ({ frames := 1, cells := 0, slots := 0, locals := 21 } : Room) [.ref (g_ad G 0 0), .int (nI a), .int (nI b)] G S (bI (apB S a b)) S := by
  refine ent (cc := cX3_arePair) (maxL := 3) (ret := (some .boolean)) (by decide) rfl (Nat.le_of_ble_eq_true rfl) ?_
  intro p e s m below meth c ls C hw hT hS hl
  obtain ⟨hx, hb, hr, hml, hown, hts, hlk⟩ := C
  have hl : lv_has ls 3 [(0, .ref (g_ad G 0 0)), (1, .int (nI a)), (2, .int (nI b))] := hl
  refine lv_iload_n hx hb dX3_arePair_0 rfl (lv_at hl 1 rfl) ?_
  refine lv_iload_n hx hb dX3_arePair_1 rfl (lv_at hl 2 rfl) ?_
  have hpc := pcode_lt ha hb5
  refine lv_icmp_eq (tgt := 24) hx hb dX3_arePair_2 (by decide) (fun h1 => ?_) (fun h1 => ?_)
  · skip
    have h1 : a = b := (nI_eq (by omega) (by omega)).mp h1
    refine lv_iconst (v := nI 0) hx hb dX3_arePair_24 (by decide) ?_
    refine top_i (y := bI false) (by decide) ?_
    exact ri hx hb hlk hr hw hS (congrArg bI (by simp [apB, h1])) (bI_nar _) (Nat.le_of_ble_eq_true rfl) (Nat.le_of_ble_eq_true rfl) dX3_arePair_25
  · skip
    have h1 : ¬ a = b := fun z => h1 ((nI_eq (by omega) (by omega)).mpr z)
    refine lv_aload_n hx hb dX3_arePair_5 rfl (lv_at hl 0 rfl) ?_
    refine gf hx hb hown hts hw hT 0 0 (by decide) (ci := 3) rfl rfl (fun _ h => List.mem_cons_of_mem _ (List.mem_append_left _ (List.mem_append_right _ h))) 3 (by decide) (List.mem_of_getElem? (i := 1) rfl) (v := .ref (g_ad G 5 ((ipS S).1))) rfl dX3_arePair_6 ?_
    refine lv_iload_n hx hb dX3_arePair_9 rfl (lv_at hl 1 rfl) ?_
    refine lv_iload_n hx hb dX3_arePair_10 rfl (lv_at hl 2 rfl) ?_
    refine cSi ⟨hx, hb, hml, hown, hts⟩ (c_pairCode l G S a (by omega) b (by omega)) (va_cwS 2 hts gX3_arePair_X3_pairCode rfl rfl rfl (by decide +kernel) ⟨(Nat.le_of_ble_eq_true rfl), (Nat.le_of_ble_eq_true rfl)⟩) hw hT hS (As := [.int (nI a), .int (nI b)]) (rest := [.ref (g_ad G 5 ((ipS S).1))]) rfl hl.1 rfl (Nat.le_of_ble_eq_true rfl) dX3_arePair_11 ⟨(Nat.le_of_ble_eq_true rfl), (Nat.le_of_ble_eq_true rfl)⟩ (fun H locs hw hS => ?_)
    refine cVi ⟨hx, hb, hml, hown, hts⟩ (c_holds l G S ((ipS S).1) (show (ipS S).1 < 4 by omega) (pcode a b) (by omega)) (cwV 1 hts gX3_arePair_X2_holds rfl rfl rfl (by decide +kernel) ⟨(Nat.le_of_ble_eq_true rfl), (Nat.le_of_ble_eq_true rfl)⟩) hw hT hS (rcv hw hT 5 ((ipS S).1) (show (ipS S).1 < 4 by omega) rfl rfl) (As := [.int (nI (pcode a b))]) (rest := []) rfl hl.1 rfl (Nat.le_of_ble_eq_true rfl) dX3_arePair_14 ⟨(Nat.le_of_ble_eq_true rfl), (Nat.le_of_ble_eq_true rfl)⟩ (fun H locs hw hS => ?_)
    refine lv_if_eq (tgt := 24) hx hb dX3_arePair_17 (by decide) (fun h2 => ?_) (fun h2 => ?_)
    · skip
      have h2 := bI_0.mp h2
      refine lv_iconst (v := nI 0) hx hb dX3_arePair_24 (by decide) ?_
      refine top_i (y := bI false) (by decide) ?_
      exact ri hx hb hlk hr hw hS (congrArg bI (by simp [apB, h1, h2])) (bI_nar _) (Nat.le_of_ble_eq_true rfl) (Nat.le_of_ble_eq_true rfl) dX3_arePair_25
    · skip
      have h2 := bI_n0.mp h2
      refine lv_iconst (v := nI 1) hx hb dX3_arePair_20 (by decide) ?_
      refine lv_goto (tgt := 25) hx hb dX3_arePair_21 (by decide) ?_
      refine top_i (y := bI true) (by decide) ?_
      exact ri hx hb hlk hr hw hS (congrArg bI (by simp [apB, h1, h2])) (bI_nar _) (Nat.le_of_ble_eq_true rfl) (Nat.le_of_ble_eq_true rfl) dX3_arePair_25
set_option maxRecDepth 100000 in
set_option maxHeartbeats 4000000 in
theorem c_pairsOf (l : Launch) (G : Gm) (S : St) (hi1 : (ipS S).1 < 4) (hi2 : (ipS S).2 < 4) (k : Nat) (hk : k < 512) : Pi l yX3_pairsOf wsX3_pairsOf ({ frames := 2, cells := 0, slots := 0, locals := 43 } : Room) [.ref (g_ad G 0 0), .int (nI k)] G S (nI (ctB (apB S k) 512)) S := by
  refine ent (cc := cX3_pairsOf) (maxL := 4) (ret := (some .int)) (by decide) rfl (Nat.le_of_ble_eq_true rfl) ?_
  intro p e s m below meth c ls C hw hT hS hl
  obtain ⟨hx, hb, hr, hml, hown, hts, hlk⟩ := C
  have hl : lv_has ls 4 [(0, .ref (g_ad G 0 0)), (1, .int (nI k))] := hl
  refine lv_iconst (v := nI 0) hx hb dX3_pairsOf_0 (by decide) ?_
  refine lv_istore_n (lv' := [(2, .int (nI 0)), (0, .ref (g_ad G 0 0)), (1, .int (nI k))]) hx hb dX3_pairsOf_1 rfl hl (by decide) rfl (fun ls hl => ?_)
  refine lv_iconst (v := nI 0) hx hb dX3_pairsOf_2 (by decide) ?_
  refine lv_istore_n (lv' := [(3, .int (nI 0)), (2, .int (nI 0)), (0, .ref (g_ad G 0 0)), (1, .int (nI k))]) hx hb dX3_pairsOf_3 rfl hl (by decide) rfl (fun ls hl => ?_)
  have LOOP : ∀ (n o : Nat) (ac : Int32) (H : Heap) (locs : List Loc) (ls : Array Slot), o + n = 512 → (ac = nI (ctB (apB S k) o)) → wdM G S H s → va_S (g_A G) s.heap H locs → lv_has ls 4 [(3, .int (nI o)), (2, .int ac), (0, .ref (g_ad G 0 0)), (1, .int (nI k))] → W p l e ({ frames := 2, cells := 0, slots := 0, locals := 43 } : Room) s m ([.ref (g_ad G 0 0), .int (nI k)] : List Value).toArray below meth c H locs 0 0 (MQ below (Qi G (nI (ctB (apB S k) 512)) S) ([.ref (g_ad G 0 0), .int (nI k)] : List Value).toArray s ({ frames := 2, cells := 0, slots := 0, locals := 43 } : Room).cells ({ frames := 2, cells := 0, slots := 0, locals := 43 } : Room).slots (g_A G)) (F0 m 4 ls []) := by
    intro n
    induction n with
    | zero =>
      intro o ac H locs ls hn ha9 hw hS hl
      obtain rfl : o = 512 := by omega
      refine lv_iload_n hx hb dX3_pairsOf_4 rfl (lv_at hl 0 rfl) ?_
      refine lv_sipush (v := nI 512) hx hb dX3_pairsOf_5 (by decide) ?_
      refine lv_icmp_ge (tgt := 29) hx hb dX3_pairsOf_8 (by decide) (fun _ => ?_) (fun q => absurd (by decide) q)
      refine lv_iload_n hx hb dX3_pairsOf_29 rfl (lv_at hl 1 rfl) ?_
      exact ri hx hb hlk hr hw hS ha9 (vp_nar_int _) (Nat.le_of_ble_eq_true rfl) (Nat.le_of_ble_eq_true rfl) dX3_pairsOf_30
    | succ n ih =>
      intro o ac H locs ls hn ha9 hw hS hl
      have ho : o < 512 := by omega
      refine lv_iload_n hx hb dX3_pairsOf_4 rfl (lv_at hl 0 rfl) ?_
      refine lv_sipush (v := nI 512) hx hb dX3_pairsOf_5 (by decide) ?_
      refine lv_icmp_ge (tgt := 29) hx hb dX3_pairsOf_8 (by decide) (fun q => absurd q (nI_ge ho (by decide))) (fun _ => ?_)
      refine lv_aload_n hx hb dX3_pairsOf_11 rfl (lv_at hl 2 rfl) ?_
      refine lv_iload_n hx hb dX3_pairsOf_12 rfl (lv_at hl 3 rfl) ?_
      refine lv_iload_n hx hb dX3_pairsOf_13 rfl (lv_at hl 0 rfl) ?_
      refine cVi ⟨hx, hb, hml, hown, hts⟩ (c_arePair l G S (by omega) (by omega) k (by omega) o (by omega)) (cwV 2 hts gX3_pairsOf_X3_arePair rfl rfl rfl (by decide +kernel) ⟨(Nat.le_of_ble_eq_true rfl), (Nat.le_of_ble_eq_true rfl)⟩) hw hT hS (rcv hw hT 0 0 (by decide) rfl rfl) (As := [.int (nI k), .int (nI o)]) (rest := []) rfl hl.1 rfl (Nat.le_of_ble_eq_true rfl) dX3_pairsOf_14 ⟨(Nat.le_of_ble_eq_true rfl), (Nat.le_of_ble_eq_true rfl)⟩ (fun H locs hw hS => ?_)
      refine lv_if_eq (tgt := 23) hx hb dX3_pairsOf_17 (by decide) (fun h3 => ?_) (fun h3 => ?_)
      · skip
        have h3 := bI_0.mp h3
        refine lv_iinc (v := nI (o + 1)) (lv' := [(3, .int (nI (o + 1))), (2, .int ac), (0, .ref (g_ad G 0 0)), (1, .int (nI k))]) hx hb dX3_pairsOf_23 hl (k := 0) rfl (nI_add o 1) (by decide) rfl (fun ls hl => ?_)
        refine lv_goto (tgt := 4) hx hb dX3_pairsOf_26 (by decide) ?_
        exact ih (o + 1) ac H locs ls (by omega) (by rw [ha9]; simp [ctB, h3, nI_1]) hw hS (lv_sub hl [0, 1, 2, 3] rfl)
      · skip
        have h3 := bI_n0.mp h3
        refine lv_iinc (v := ac + 1) (lv' := [(2, .int (ac + 1)), (3, .int (nI o)), (0, .ref (g_ad G 0 0)), (1, .int (nI k))]) hx hb dX3_pairsOf_20 hl (k := 1) rfl rfl (by decide) rfl (fun ls hl => ?_)
        refine lv_iinc (v := nI (o + 1)) (lv' := [(3, .int (nI (o + 1))), (2, .int (ac + 1)), (0, .ref (g_ad G 0 0)), (1, .int (nI k))]) hx hb dX3_pairsOf_23 hl (k := 1) rfl (nI_add o 1) (by decide) rfl (fun ls hl => ?_)
        refine lv_goto (tgt := 4) hx hb dX3_pairsOf_26 (by decide) ?_
        exact ih (o + 1) (ac + 1) H locs ls (by omega) (by rw [ha9]; simp [ctB, h3, nI_1]) hw hS (lv_sub hl [0, 1, 2, 3] rfl)
  exact LOOP 512 0 (nI 0) _ _ ls (by omega) rfl hw hS (lv_sub hl [0, 1, 2, 3] rfl)
set_option maxRecDepth 100000 in
set_option maxHeartbeats 4000000 in
theorem c_touchedBodies (l : Launch) (G : Gm) (S : St)  : Pi l yX3_touchedBodies wsX3_touchedBodies ({ frames := 0, cells := 0, slots := 0, locals := 0 } : Room) [.ref (g_ad G 0 0)] G S (nI (ctB (tcS S) 512)) S := by
  refine ent (cc := cX3_touchedBodies) (maxL := 3) (ret := (some .int)) (by decide) rfl (Nat.le_of_ble_eq_true rfl) ?_
  intro p e s m below meth c ls C hw hT hS hl
  obtain ⟨hx, hb, hr, hml, hown, hts, hlk⟩ := C
  have hl : lv_has ls 3 [(0, .ref (g_ad G 0 0))] := hl
  refine lv_iconst (v := nI 0) hx hb dX3_touchedBodies_0 (by decide) ?_
  refine lv_istore_n (lv' := [(1, .int (nI 0)), (0, .ref (g_ad G 0 0))]) hx hb dX3_touchedBodies_1 rfl hl (by decide) rfl (fun ls hl => ?_)
  refine lv_iconst (v := nI 0) hx hb dX3_touchedBodies_2 (by decide) ?_
  refine lv_istore_n (lv' := [(2, .int (nI 0)), (1, .int (nI 0)), (0, .ref (g_ad G 0 0))]) hx hb dX3_touchedBodies_3 rfl hl (by decide) rfl (fun ls hl => ?_)
  have LOOP : ∀ (n o : Nat) (ac : Int32) (H : Heap) (locs : List Loc) (ls : Array Slot), o + n = 512 → (ac = nI (ctB (tcS S) o)) → wdM G S H s → va_S (g_A G) s.heap H locs → lv_has ls 3 [(2, .int (nI o)), (1, .int ac), (0, .ref (g_ad G 0 0))] → W p l e ({ frames := 0, cells := 0, slots := 0, locals := 0 } : Room) s m ([.ref (g_ad G 0 0)] : List Value).toArray below meth c H locs 0 0 (MQ below (Qi G (nI (ctB (tcS S) 512)) S) ([.ref (g_ad G 0 0)] : List Value).toArray s ({ frames := 0, cells := 0, slots := 0, locals := 0 } : Room).cells ({ frames := 0, cells := 0, slots := 0, locals := 0 } : Room).slots (g_A G)) (F0 m 4 ls []) := by
    intro n
    induction n with
    | zero =>
      intro o ac H locs ls hn ha9 hw hS hl
      obtain rfl : o = 512 := by omega
      refine lv_iload_n hx hb dX3_touchedBodies_4 rfl (lv_at hl 0 rfl) ?_
      refine lv_sipush (v := nI 512) hx hb dX3_touchedBodies_5 (by decide) ?_
      refine lv_icmp_ge (tgt := 32) hx hb dX3_touchedBodies_8 (by decide) (fun _ => ?_) (fun q => absurd (by decide) q)
      refine lv_iload_n hx hb dX3_touchedBodies_32 rfl (lv_at hl 1 rfl) ?_
      exact ri hx hb hlk hr hw hS ha9 (vp_nar_int _) (Nat.le_of_ble_eq_true rfl) (Nat.le_of_ble_eq_true rfl) dX3_touchedBodies_33
    | succ n ih =>
      intro o ac H locs ls hn ha9 hw hS hl
      have ho : o < 512 := by omega
      refine lv_iload_n hx hb dX3_touchedBodies_4 rfl (lv_at hl 0 rfl) ?_
      refine lv_sipush (v := nI 512) hx hb dX3_touchedBodies_5 (by decide) ?_
      refine lv_icmp_ge (tgt := 32) hx hb dX3_touchedBodies_8 (by decide) (fun q => absurd q (nI_ge ho (by decide))) (fun _ => ?_)
      refine lv_aload_n hx hb dX3_touchedBodies_11 rfl (lv_at hl 2 rfl) ?_
      refine gf hx hb hown hts hw hT 0 0 (by decide) (ci := 3) rfl rfl (fun _ h => List.mem_cons_of_mem _ (List.mem_append_left _ (List.mem_append_right _ h))) 1 (by decide) (List.mem_of_getElem? (i := 1) rfl) (v := .ref (g_ad G 3 0)) rfl dX3_touchedBodies_12 ?_
      refine lv_iload_n hx hb dX3_touchedBodies_15 rfl (lv_at hl 0 rfl) ?_
      refine abl hx hb hw hT o (show o < 512 by omega) dX3_touchedBodies_16 ?_
      refine gf hx hb hown hts hw hT 4 o (show o < 512 by omega) (ci := 0) rfl rfl (fun _ h => List.mem_cons_of_mem _ (List.mem_append_right _ h)) 5 (by decide) (List.mem_of_getElem? (i := 2) rfl) (v := .int (bI (tcS S o))) rfl dX3_touchedBodies_17 ?_
      refine lv_if_eq (tgt := 26) hx hb dX3_touchedBodies_20 (by decide) (fun h3 => ?_) (fun h3 => ?_)
      · skip
        have h3 := bI_0.mp h3
        refine lv_iinc (v := nI (o + 1)) (lv' := [(2, .int (nI (o + 1))), (1, .int ac), (0, .ref (g_ad G 0 0))]) hx hb dX3_touchedBodies_26 hl (k := 0) rfl (nI_add o 1) (by decide) rfl (fun ls hl => ?_)
        refine lv_goto (tgt := 4) hx hb dX3_touchedBodies_29 (by decide) ?_
        exact ih (o + 1) ac H locs ls (by omega) (by rw [ha9]; simp [ctB, h3, nI_1]) hw hS (lv_sub hl [0, 1, 2] rfl)
      · skip
        have h3 := bI_n0.mp h3
        refine lv_iinc (v := ac + 1) (lv' := [(1, .int (ac + 1)), (2, .int (nI o)), (0, .ref (g_ad G 0 0))]) hx hb dX3_touchedBodies_23 hl (k := 1) rfl rfl (by decide) rfl (fun ls hl => ?_)
        refine lv_iinc (v := nI (o + 1)) (lv' := [(2, .int (nI (o + 1))), (1, .int (ac + 1)), (0, .ref (g_ad G 0 0))]) hx hb dX3_touchedBodies_26 hl (k := 1) rfl (nI_add o 1) (by decide) rfl (fun ls hl => ?_)
        refine lv_goto (tgt := 4) hx hb dX3_touchedBodies_29 (by decide) ?_
        exact ih (o + 1) (ac + 1) H locs ls (by omega) (by rw [ha9]; simp [ctB, h3, nI_1]) hw hS (lv_sub hl [0, 1, 2] rfl)
  exact LOOP 512 0 (nI 0) _ _ ls (by omega) rfl hw hS (lv_sub hl [0, 1, 2] rfl)
/-- does the row stay good: n more steps from S on -/
def rgB (dx dy dz : UInt32) : Nat → St → Bool
  | 0, _ => true
  | n + 1, S => if gdF (bxS (mvS S 1 dx dy dz) 1) = true then rgB dx dy dz n (mvS S 1 dx dy dz) else false
def rgS (dx dy dz : UInt32) : Nat → St → St
  | 0, S => S
  | n + 1, S => if gdF (bxS (mvS S 1 dx dy dz) 1) = true then rgS dx dy dz n (mvS S 1 dx dy dz) else mvS S 1 dx dy dz
set_option maxRecDepth 100000 in
set_option maxHeartbeats 4000000 in
theorem c_rowStaysGood (l : Launch) (G : Gm) (S : St) (N : Nat) (hN : 1 ≤ N) (hN5 : N ≤ 512) (dx dy dz : UInt32) (hm : mvB dx dy dz = true) (hp : Gb (bxS S 0)) : Pi l yX3_rowStaysGood wsX3_rowStaysGood ({ frames := 2, cells := 0, slots := 0, locals := 81 } : Room) [.ref (g_ad G 0 0), .int (nI N), .float dx, .float dy, .float dz] G S (bI (rgB dx dy dz (N - 1) (cpF6 S 1 0))) (rgS dx dy dz (N - 1) (cpF6 S 1 0)) := by
  refine ent (cc := cX3_rowStaysGood) (maxL := 6) (ret := (some .boolean)) (by decide) rfl (Nat.le_of_ble_eq_true rfl) ?_
  intro p e s m below meth c ls C hw hT hS hl
  obtain ⟨hx, hb, hr, hml, hown, hts, hlk⟩ := C
  have hl : lv_has ls 6 [(0, .ref (g_ad G 0 0)), (1, .int (nI N)), (2, .float dx), (3, .float dy), (4, .float dz)] := hl
  refine lv_aload_n hx hb dX3_rowStaysGood_0 rfl (lv_at hl 0 rfl) ?_
  refine gf hx hb hown hts hw hT 0 0 (by decide) (ci := 3) rfl rfl (fun _ h => List.mem_cons_of_mem _ (List.mem_append_left _ (List.mem_append_right _ h))) 11 (by decide) (List.mem_of_getElem? (i := 1) rfl) (v := .ref (g_ad G 1 1)) rfl dX3_rowStaysGood_1 ?_
  refine lv_aload_n hx hb dX3_rowStaysGood_4 rfl (lv_at hl 0 rfl) ?_
  refine gf hx hb hown hts hw hT 0 0 (by decide) (ci := 3) rfl rfl (fun _ h => List.mem_cons_of_mem _ (List.mem_append_left _ (List.mem_append_right _ h))) 0 (by decide) (List.mem_of_getElem? (i := 2) rfl) (v := .ref (g_ad G 1 0)) rfl dX3_rowStaysGood_5 ?_
  refine cVv ⟨hx, hb, hml, hown, hts⟩ (c_copyFrom l G S 1 (by decide) 0 (by decide) (by decide)) (cwV 1 hts gX3_rowStaysGood_X1_copyFrom rfl rfl rfl (by decide +kernel) ⟨(Nat.le_of_ble_eq_true rfl), (Nat.le_of_ble_eq_true rfl)⟩) hw hT hS (rcv hw hT 1 1 (by decide) rfl rfl) (As := [.ref (g_ad G 1 0)]) (rest := []) rfl hl.1 rfl (Nat.le_of_ble_eq_true rfl) dX3_rowStaysGood_8 ⟨(Nat.le_of_ble_eq_true rfl), (Nat.le_of_ble_eq_true rfl)⟩ (fun H locs hw hS => ?_)
  refine lv_iconst (v := nI 1) hx hb dX3_rowStaysGood_11 (by decide) ?_
  refine lv_istore (lv' := [(5, .int (nI 1)), (0, .ref (g_ad G 0 0)), (1, .int (nI N)), (2, .float dx), (3, .float dy), (4, .float dz)]) hx hb dX3_rowStaysGood_12 hl (by decide) rfl (fun ls hl => ?_)
  have LOOP : ∀ (n i : Nat) (S2 : St) (H : Heap) (locs : List Loc) (ls : Array Slot), i + n = N → (rgB dx dy dz n S2 = rgB dx dy dz (N - 1) (cpF6 S 1 0)) → (rgS dx dy dz n S2 = rgS dx dy dz (N - 1) (cpF6 S 1 0)) → (Gb (bxS S2 1)) → wdM G S2 H s → va_S (g_A G) s.heap H locs → lv_has ls 6 [(5, .int (nI i)), (0, .ref (g_ad G 0 0)), (1, .int (nI N)), (2, .float dx), (3, .float dy), (4, .float dz)] → W p l e ({ frames := 2, cells := 0, slots := 0, locals := 81 } : Room) s m ([.ref (g_ad G 0 0), .int (nI N), .float dx, .float dy, .float dz] : List Value).toArray below meth c H locs 0 0 (MQ below (Qi G (bI (rgB dx dy dz (N - 1) (cpF6 S 1 0))) (rgS dx dy dz (N - 1) (cpF6 S 1 0))) ([.ref (g_ad G 0 0), .int (nI N), .float dx, .float dy, .float dz] : List Value).toArray s ({ frames := 2, cells := 0, slots := 0, locals := 81 } : Room).cells ({ frames := 2, cells := 0, slots := 0, locals := 81 } : Room).slots (g_A G)) (F0 m 14 ls []) := by
    intro n
    induction n with
    | zero =>
      intro i S2 H locs ls hn hq0 hq hG hw hS hl
      obtain rfl : i = N := by omega
      refine lv_iload hx hb dX3_rowStaysGood_14 (lv_at hl 0 rfl) ?_
      refine lv_iload_n hx hb dX3_rowStaysGood_16 rfl (lv_at hl 2 rfl) ?_
      refine lv_icmp_ge (tgt := 49) hx hb dX3_rowStaysGood_17 (by decide) (fun _ => ?_) (fun q => absurd (Int32.le_refl _) q)
      refine lv_iconst (v := nI 1) hx hb dX3_rowStaysGood_49 (by decide) ?_
      refine top_i (y := bI true) (by decide) ?_
      exact ri hx hb hlk hr (by rw [← hq]; exact hw) hS (congrArg bI (by rw [← hq0]; rfl)) (bI_nar _) (Nat.le_of_ble_eq_true rfl) (Nat.le_of_ble_eq_true rfl) dX3_rowStaysGood_50
    | succ n ih =>
      intro i S2 H locs ls hn hq0 hq hG hw hS hl
      have hi : i < N := by omega
      refine lv_iload hx hb dX3_rowStaysGood_14 (lv_at hl 0 rfl) ?_
      refine lv_iload_n hx hb dX3_rowStaysGood_16 rfl (lv_at hl 2 rfl) ?_
      refine lv_icmp_ge (tgt := 49) hx hb dX3_rowStaysGood_17 (by decide) (fun q => absurd q (nI_ge hi (by omega))) (fun _ => ?_)
      refine lv_aload_n hx hb dX3_rowStaysGood_20 rfl (lv_at hl 1 rfl) ?_
      refine gf hx hb hown hts hw hT 0 0 (by decide) (ci := 3) rfl rfl (fun _ h => List.mem_cons_of_mem _ (List.mem_append_left _ (List.mem_append_right _ h))) 11 (by decide) (List.mem_of_getElem? (i := 1) rfl) (v := .ref (g_ad G 1 1)) rfl dX3_rowStaysGood_21 ?_
      refine lv_fload_n hx hb dX3_rowStaysGood_24 rfl (lv_at hl 3 rfl) ?_
      refine lv_fload_n hx hb dX3_rowStaysGood_25 rfl (lv_at hl 4 rfl) ?_
      refine lv_fload hx hb dX3_rowStaysGood_26 (lv_at hl 5 rfl) ?_
      refine cVv ⟨hx, hb, hml, hown, hts⟩ (c_moveBy l G S2 1 (by decide) dx dy dz (mv_ok hG hm)) (cwV 3 hts gX3_rowStaysGood_X1_moveBy rfl rfl rfl (by decide +kernel) ⟨(Nat.le_of_ble_eq_true rfl), (Nat.le_of_ble_eq_true rfl)⟩) hw hT hS (rcv hw hT 1 1 (by decide) rfl rfl) (As := [.float dx, .float dy, .float dz]) (rest := []) rfl hl.1 rfl (Nat.le_of_ble_eq_true rfl) dX3_rowStaysGood_28 ⟨(Nat.le_of_ble_eq_true rfl), (Nat.le_of_ble_eq_true rfl)⟩ (fun H locs hw hS => ?_)
      refine lv_aload_n hx hb dX3_rowStaysGood_31 rfl (lv_at hl 1 rfl) ?_
      refine gf hx hb hown hts hw hT 0 0 (by decide) (ci := 3) rfl rfl (fun _ h => List.mem_cons_of_mem _ (List.mem_append_left _ (List.mem_append_right _ h))) 11 (by decide) (List.mem_of_getElem? (i := 1) rfl) (v := .ref (g_ad G 1 1)) rfl dX3_rowStaysGood_32 ?_
      refine cVi ⟨hx, hb, hml, hown, hts⟩ (c_isGood l G (mvS S2 1 dx dy dz) 1 (by decide)) (cwV 0 hts gX3_rowStaysGood_X1_isGood rfl rfl rfl (by decide +kernel) ⟨(Nat.le_of_ble_eq_true rfl), (Nat.le_of_ble_eq_true rfl)⟩) hw hT hS (rcv hw hT 1 1 (by decide) rfl rfl) (As := []) (rest := []) rfl hl.1 rfl (Nat.le_of_ble_eq_true rfl) dX3_rowStaysGood_35 ⟨(Nat.le_of_ble_eq_true rfl), (Nat.le_of_ble_eq_true rfl)⟩ (fun H locs hw hS => ?_)
      refine lv_if_ne (tgt := 43) hx hb dX3_rowStaysGood_38 (by decide) (fun h3 => ?_) (fun h3 => ?_)
      · skip
        have h3 := bI_n0.mp h3
        refine lv_iinc (v := nI (i + 1)) (lv' := [(5, .int (nI (i + 1))), (0, .ref (g_ad G 0 0)), (1, .int (nI N)), (2, .float dx), (3, .float dy), (4, .float dz)]) hx hb dX3_rowStaysGood_43 hl (k := 0) rfl (nI_add i 1) (by decide) rfl (fun ls hl => ?_)
        refine lv_goto (tgt := 14) hx hb dX3_rowStaysGood_46 (by decide) ?_
        exact ih (i + 1) ((mvS S2 1 dx dy dz)) H locs ls (by omega) (by rw [← hq0]; simp [rgB, h3]) (by rw [← hq]; simp [rgS, h3]) (gd_at h3) hw hS (lv_sub hl [0, 1, 2, 3, 4, 5] rfl)
      · skip
        have h3 := bI_0.mp h3
        refine lv_iconst (v := nI 0) hx hb dX3_rowStaysGood_41 (by decide) ?_
        refine top_i (y := bI false) (by decide) ?_
        exact ri hx hb hlk hr (by rw [← hq]; simp only [rgS, h3, Bool.false_eq_true, if_false]; exact hw) hS (congrArg bI (by rw [← hq0]; simp [rgB, h3])) (bI_nar _) (Nat.le_of_ble_eq_true rfl) (Nat.le_of_ble_eq_true rfl) dX3_rowStaysGood_42
  exact LOOP (N - 1) 1 ((cpF6 S 1 0)) _ _ ls (by omega) rfl rfl (by unfold cpF6; rw [bx_s]; exact cp_gb hp) hw hS (lv_sub hl [0, 1, 2, 3, 4, 5] rfl)
def sbV (S : St) (k : Nat) (dx dy dz : UInt32) : St := mvS (cpF6 S 1 (2 * k + 2)) 1 dx dy dz
def sbB (S : St) (k : Nat) (dx dy dz : UInt32) : Bool := gdF (bxS (sbV S k dx dy dz) 1) && !(mtB (sbV S k dx dy dz) k 1)
def sbS (S : St) (k : Nat) (dx dy dz : UInt32) : St := if gdF (bxS (sbV S k dx dy dz) 1) = true then mtS (sbV S k dx dy dz) k 1 dx dy dz else sbV S k dx dy dz
set_option maxRecDepth 100000 in
set_option maxHeartbeats 4000000 in
theorem c_shiftBody (l : Launch) (G : Gm) (S : St) (k : Nat) (hk : k < 512) (dx dy dz : UInt32) (hm : mvB dx dy dz = true) (hG : Gb (bxS S (2 * k + 2))) : Pi l yX3_shiftBody wsX3_shiftBody ({ frames := 3, cells := 0, slots := 0, locals := 105 } : Room) [.ref (g_ad G 0 0), .ref (g_ad G 4 k), .float dx, .float dy, .float dz] G S (bI (sbB S k dx dy dz)) (sbS S k dx dy dz) := by
  refine ent (cc := cX3_shiftBody) (maxL := 5) (ret := (some .boolean)) (by decide) rfl (Nat.le_of_ble_eq_true rfl) ?_
  intro p e s m below meth c ls C hw hT hS hl
  obtain ⟨hx, hb, hr, hml, hown, hts, hlk⟩ := C
  have hl : lv_has ls 5 [(0, .ref (g_ad G 0 0)), (1, .ref (g_ad G 4 k)), (2, .float dx), (3, .float dy), (4, .float dz)] := hl
  refine lv_aload_n hx hb dX3_shiftBody_0 rfl (lv_at hl 0 rfl) ?_
  refine gf hx hb hown hts hw hT 0 0 (by decide) (ci := 3) rfl rfl (fun _ h => List.mem_cons_of_mem _ (List.mem_append_left _ (List.mem_append_left _ (List.mem_append_right _ h)))) 11 (by decide) (List.mem_of_getElem? (i := 1) rfl) (v := .ref (g_ad G 1 1)) rfl dX3_shiftBody_1 ?_
  refine lv_aload_n hx hb dX3_shiftBody_4 rfl (lv_at hl 1 rfl) ?_
  refine gf hx hb hown hts hw hT 4 k (show k < 512 by omega) (ci := 0) rfl rfl (fun _ h => List.mem_cons_of_mem _ (List.mem_append_left _ (List.mem_append_right _ h))) 0 (by decide) (List.mem_of_getElem? (i := 2) rfl) (v := .ref (g_ad G 1 (2 * k + 2))) rfl dX3_shiftBody_5 ?_
  refine cVv ⟨hx, hb, hml, hown, hts⟩ (c_copyFrom l G S 1 (by decide) (2 * k + 2) (show 2 * k + 2 < 1026 by omega) (by omega)) (cwV 1 hts gX3_shiftBody_X1_copyFrom rfl rfl rfl (by decide +kernel) ⟨(Nat.le_of_ble_eq_true rfl), (Nat.le_of_ble_eq_true rfl)⟩) hw hT hS (rcv hw hT 1 1 (by decide) rfl rfl) (As := [.ref (g_ad G 1 (2 * k + 2))]) (rest := []) rfl hl.1 rfl (Nat.le_of_ble_eq_true rfl) dX3_shiftBody_8 ⟨(Nat.le_of_ble_eq_true rfl), (Nat.le_of_ble_eq_true rfl)⟩ (fun H locs hw hS => ?_)
  refine lv_aload_n hx hb dX3_shiftBody_11 rfl (lv_at hl 0 rfl) ?_
  refine gf hx hb hown hts hw hT 0 0 (by decide) (ci := 3) rfl rfl (fun _ h => List.mem_cons_of_mem _ (List.mem_append_left _ (List.mem_append_left _ (List.mem_append_right _ h)))) 11 (by decide) (List.mem_of_getElem? (i := 1) rfl) (v := .ref (g_ad G 1 1)) rfl dX3_shiftBody_12 ?_
  refine lv_fload_n hx hb dX3_shiftBody_15 rfl (lv_at hl 2 rfl) ?_
  refine lv_fload_n hx hb dX3_shiftBody_16 rfl (lv_at hl 3 rfl) ?_
  refine lv_fload hx hb dX3_shiftBody_17 (lv_at hl 4 rfl) ?_
  refine cVv ⟨hx, hb, hml, hown, hts⟩ (c_moveBy l G (cpF6 S 1 (2 * k + 2)) 1 (by decide) dx dy dz (mv_ok (by unfold cpF6; rw [bx_s]; exact cp_gb hG) hm)) (cwV 3 hts gX3_shiftBody_X1_moveBy rfl rfl rfl (by decide +kernel) ⟨(Nat.le_of_ble_eq_true rfl), (Nat.le_of_ble_eq_true rfl)⟩) hw hT hS (rcv hw hT 1 1 (by decide) rfl rfl) (As := [.float dx, .float dy, .float dz]) (rest := []) rfl hl.1 rfl (Nat.le_of_ble_eq_true rfl) dX3_shiftBody_19 ⟨(Nat.le_of_ble_eq_true rfl), (Nat.le_of_ble_eq_true rfl)⟩ (fun H locs hw hS => ?_)
  refine lv_aload_n hx hb dX3_shiftBody_22 rfl (lv_at hl 0 rfl) ?_
  refine gf hx hb hown hts hw hT 0 0 (by decide) (ci := 3) rfl rfl (fun _ h => List.mem_cons_of_mem _ (List.mem_append_left _ (List.mem_append_left _ (List.mem_append_right _ h)))) 11 (by decide) (List.mem_of_getElem? (i := 1) rfl) (v := .ref (g_ad G 1 1)) rfl dX3_shiftBody_23 ?_
  refine cVi ⟨hx, hb, hml, hown, hts⟩ (c_isGood l G (mvS (cpF6 S 1 (2 * k + 2)) 1 dx dy dz) 1 (by decide)) (cwV 0 hts gX3_shiftBody_X1_isGood rfl rfl rfl (by decide +kernel) ⟨(Nat.le_of_ble_eq_true rfl), (Nat.le_of_ble_eq_true rfl)⟩) hw hT hS (rcv hw hT 1 1 (by decide) rfl rfl) (As := []) (rest := []) rfl hl.1 rfl (Nat.le_of_ble_eq_true rfl) dX3_shiftBody_26 ⟨(Nat.le_of_ble_eq_true rfl), (Nat.le_of_ble_eq_true rfl)⟩ (fun H locs hw hS => ?_)
  refine lv_if_eq (tgt := 51) hx hb dX3_shiftBody_29 (by decide) (fun h1 => ?_) (fun h1 => ?_)
  · skip
    have h1 := bI_0.mp h1
    refine lv_iconst (v := nI 0) hx hb dX3_shiftBody_51 (by decide) ?_
    refine top_i (y := bI false) (by decide) ?_
    exact ri hx hb hlk hr (by unfold sbS; rw [if_neg (show ¬ gdF (bxS (sbV S k dx dy dz) 1) = true from by rw [show gdF (bxS (sbV S k dx dy dz) 1) = false from h1]; decide)]; exact hw) hS (congrArg bI (show false = sbB S k dx dy dz by unfold sbB; rw [show gdF (bxS (sbV S k dx dy dz) 1) = false from h1]; rfl)) (bI_nar _) (Nat.le_of_ble_eq_true rfl) (Nat.le_of_ble_eq_true rfl) dX3_shiftBody_52
  · skip
    have h1 := bI_n0.mp h1
    refine lv_aload_n hx hb dX3_shiftBody_32 rfl (lv_at hl 1 rfl) ?_
    refine lv_aload_n hx hb dX3_shiftBody_33 rfl (lv_at hl 0 rfl) ?_
    refine gf hx hb hown hts hw hT 0 0 (by decide) (ci := 3) rfl rfl (fun _ h => List.mem_cons_of_mem _ (List.mem_append_left _ (List.mem_append_left _ (List.mem_append_right _ h)))) 11 (by decide) (List.mem_of_getElem? (i := 1) rfl) (v := .ref (g_ad G 1 1)) rfl dX3_shiftBody_34 ?_
    refine lv_fload_n hx hb dX3_shiftBody_37 rfl (lv_at hl 2 rfl) ?_
    refine lv_fload_n hx hb dX3_shiftBody_38 rfl (lv_at hl 3 rfl) ?_
    refine lv_fload hx hb dX3_shiftBody_39 (lv_at hl 4 rfl) ?_
    refine cVi ⟨hx, hb, hml, hown, hts⟩ (c_moveTo l G (mvS (cpF6 S 1 (2 * k + 2)) 1 dx dy dz) k (show k < 512 by omega) 1 (by decide) (by omega) (by omega) dx dy dz (fun _ => mt_ok (gd_at h1) (by omega) hm)) (cwV 4 hts gX3_shiftBody_X0_moveTo rfl rfl rfl (by decide +kernel) ⟨(Nat.le_of_ble_eq_true rfl), (Nat.le_of_ble_eq_true rfl)⟩) hw hT hS (rcv hw hT 4 k (show k < 512 by omega) rfl rfl) (As := [.ref (g_ad G 1 1), .float dx, .float dy, .float dz]) (rest := []) rfl hl.1 rfl (Nat.le_of_ble_eq_true rfl) dX3_shiftBody_41 ⟨(Nat.le_of_ble_eq_true rfl), (Nat.le_of_ble_eq_true rfl)⟩ (fun H locs hw hS => ?_)
    refine lv_if_eq (tgt := 51) hx hb dX3_shiftBody_44 (by decide) (fun h2 => ?_) (fun h2 => ?_)
    · skip
      have h2 := bI_0.mp h2
      refine lv_iconst (v := nI 0) hx hb dX3_shiftBody_51 (by decide) ?_
      refine top_i (y := bI false) (by decide) ?_
      exact ri hx hb hlk hr (by unfold sbS; rw [if_pos (show gdF (bxS (sbV S k dx dy dz) 1) = true from h1)]; exact hw) hS (congrArg bI (show false = sbB S k dx dy dz by unfold sbB; rw [show gdF (bxS (sbV S k dx dy dz) 1) = true from h1, show (!(mtB (sbV S k dx dy dz) k 1)) = false from h2]; rfl)) (bI_nar _) (Nat.le_of_ble_eq_true rfl) (Nat.le_of_ble_eq_true rfl) dX3_shiftBody_52
    · skip
      have h2 := bI_n0.mp h2
      refine lv_iconst (v := nI 1) hx hb dX3_shiftBody_47 (by decide) ?_
      refine lv_goto (tgt := 52) hx hb dX3_shiftBody_48 (by decide) ?_
      refine top_i (y := bI true) (by decide) ?_
      exact ri hx hb hlk hr (by unfold sbS; rw [if_pos (show gdF (bxS (sbV S k dx dy dz) 1) = true from h1)]; exact hw) hS (congrArg bI (show true = sbB S k dx dy dz by unfold sbB; rw [show gdF (bxS (sbV S k dx dy dz) 1) = true from h1, show (!(mtB (sbV S k dx dy dz) k 1)) = true from h2]; rfl)) (bI_nar _) (Nat.le_of_ble_eq_true rfl) (Nat.le_of_ble_eq_true rfl) dX3_shiftBody_52
end
section
/-! PairFinder: addBodies, reviewPairsOf -/
/-- the row's boxes -/
def rwF (dx dy dz : UInt32) : Nat → (Nat → UInt32) → (Nat → UInt32)
  | 0, f => f
  | t + 1, f => mvF (rwF dx dy dz t f) dx dy dz
theorem rw_s {dx dy dz : UInt32} {t : Nat} {f : Nat → UInt32} (h : ¬ t = 0) : mvF (rwF dx dy dz (t - 1) f) dx dy dz = rwF dx dy dz t f := by
  match t, h with
  | t + 1, _ => rfl
def abR (N : Nat) (dx dy dz : UInt32) (g9 m9 : Int32) : Nat → Nat → St → Int32 → Nat → St × Int32 × Nat
  | 0, _, S, la, ad => (S, la, ad)
  | n + 1, b, S, la, ad => if ad < N then (if thS S b = true then abR N dx dy dz g9 m9 n (b + 1) S la ad else abR N dx dy dz g9 m9 n (b + 1) (apS (if ad = 0 then S else mvS S 1 dx dy dz) b 1 g9 m9) (nI b) (ad + 1)) else (S, la, ad)
def abD (N : Nat) (dx dy dz : UInt32) (g9 m9 : Int32) (S : St) : St × Int32 × Nat := abR N dx dy dz g9 m9 512 0 (cpF6 S 1 0) (-1) 0
def abT (N : Nat) (dx dy dz : UInt32) (g9 m9 : Int32) (S : St) : St := nfU (abD N dx dy dz g9 m9 S).1 (va_up (nfS (abD N dx dy dz g9 m9 S).1) 0 (nfS (abD N dx dy dz g9 m9 S).1 0 + nI (abD N dx dy dz g9 m9 S).2.2))
theorem ap_bx {S : St} {b a j : Nat} {g9 m9 : Int32} (h2 : j ≠ 2 * b + 2) (h3 : j ≠ 2 * b + 3) : bxS (apS S b a g9 m9) j = bxS S j := by
  unfold apS flS wdS cpF6
  show bxS (boxU _ _ _) j = _
  rw [bx_ne _ _ h3, bx_ne _ _ h3, bx_ne _ _ h2]
  rfl
theorem mv_b1 {S : St} {dx dy dz : UInt32} : bxS (mvS S 1 dx dy dz) 1 = mvF (bxS S 1) dx dy dz := by unfold mvS; rw [bx_s]
def rvS (S : St) (k : Nat) : Nat → St
  | 0 => S
  | o + 1 => if (decide (o = k) || (decide (o < k) && tcS (rvS S k o) o)) = true then rvS S k o else putS (rvS S k o) (ipS (rvS S k o)).2 (pcode k o) (pwB (rvS S k o) k o)
theorem put_ip (S : St) (i q : Nat) (b : Bool) : ipS (putS S i q b) = ipS S := by unfold putS; split <;> rfl
theorem rv_ip (S : St) (k : Nat) : ∀ o, ipS (rvS S k o) = ipS S
  | 0 => rfl
  | o + 1 => by
    unfold rvS
    split
    · exact rv_ip S k o
    · rw [put_ip]; exact rv_ip S k o
set_option maxRecDepth 100000 in
set_option maxHeartbeats 4000000 in
theorem c_addBodies (l : Launch) (G : Gm) (S : St) (N : Nat) (hN : 1 ≤ N) (hN5 : N ≤ 512) (dx dy dz : UInt32) (g9 m9 : Int32) (hm : mvB dx dy dz = true) (hrow : ∀ t, t < N → Gb (rwF dx dy dz t (bxS (cpF6 S 1 0) 1))) : Pi l yX3_addBodies wsX3_addBodies ({ frames := 3, cells := 0, slots := 0, locals := 104 } : Room) [.ref (g_ad G 0 0), .int (nI N), .float dx, .float dy, .float dz, .int g9, .int m9] G S ((abD N dx dy dz g9 m9 S).2.1) (abT N dx dy dz g9 m9 S) := by
  refine ent (cc := cX3_addBodies) (maxL := 10) (ret := (some .int)) (by decide) rfl (Nat.le_of_ble_eq_true rfl) ?_
  intro p e s m below meth c ls C hw hT hS hl
  obtain ⟨hx, hb, hr, hml, hown, hts, hlk⟩ := C
  have hl : lv_has ls 10 [(0, .ref (g_ad G 0 0)), (1, .int (nI N)), (2, .float dx), (3, .float dy), (4, .float dz), (5, .int g9), (6, .int m9)] := hl
  refine lv_aload_n hx hb dX3_addBodies_0 rfl (lv_at hl 0 rfl) ?_
  refine gf hx hb hown hts hw hT 0 0 (by decide) (ci := 3) rfl rfl (fun _ h => List.mem_cons_of_mem _ (List.mem_append_left _ (List.mem_append_left _ (List.mem_append_right _ h)))) 11 (by decide) (List.mem_of_getElem? (i := 1) rfl) (v := .ref (g_ad G 1 1)) rfl dX3_addBodies_1 ?_
  refine lv_aload_n hx hb dX3_addBodies_4 rfl (lv_at hl 0 rfl) ?_
  refine gf hx hb hown hts hw hT 0 0 (by decide) (ci := 3) rfl rfl (fun _ h => List.mem_cons_of_mem _ (List.mem_append_left _ (List.mem_append_left _ (List.mem_append_right _ h)))) 0 (by decide) (List.mem_of_getElem? (i := 2) rfl) (v := .ref (g_ad G 1 0)) rfl dX3_addBodies_5 ?_
  refine cVv ⟨hx, hb, hml, hown, hts⟩ (c_copyFrom l G S 1 (by decide) 0 (by decide) (by decide)) (cwV 1 hts gX3_addBodies_X1_copyFrom rfl rfl rfl (by decide +kernel) ⟨(Nat.le_of_ble_eq_true rfl), (Nat.le_of_ble_eq_true rfl)⟩) hw hT hS (rcv hw hT 1 1 (by decide) rfl rfl) (As := [.ref (g_ad G 1 0)]) (rest := []) rfl hl.1 rfl (Nat.le_of_ble_eq_true rfl) dX3_addBodies_8 ⟨(Nat.le_of_ble_eq_true rfl), (Nat.le_of_ble_eq_true rfl)⟩ (fun H locs hw hS => ?_)
  refine lv_iconst (v := (-1)) hx hb dX3_addBodies_11 (by decide) ?_
  refine lv_istore (lv' := [(7, .int ((-1))), (0, .ref (g_ad G 0 0)), (1, .int (nI N)), (2, .float dx), (3, .float dy), (4, .float dz), (5, .int g9), (6, .int m9)]) hx hb dX3_addBodies_12 hl (by decide) rfl (fun ls hl => ?_)
  refine lv_iconst (v := nI 0) hx hb dX3_addBodies_14 (by decide) ?_
  refine lv_istore (lv' := [(8, .int (nI 0)), (7, .int ((-1))), (0, .ref (g_ad G 0 0)), (1, .int (nI N)), (2, .float dx), (3, .float dy), (4, .float dz), (5, .int g9), (6, .int m9)]) hx hb dX3_addBodies_15 hl (by decide) rfl (fun ls hl => ?_)
  refine lv_iconst (v := nI 0) hx hb dX3_addBodies_17 (by decide) ?_
  refine lv_istore (lv' := [(9, .int (nI 0)), (8, .int (nI 0)), (7, .int ((-1))), (0, .ref (g_ad G 0 0)), (1, .int (nI N)), (2, .float dx), (3, .float dy), (4, .float dz), (5, .int g9), (6, .int m9)]) hx hb dX3_addBodies_18 hl (by decide) rfl (fun ls hl => ?_)
  have LOOP : ∀ (n b : Nat) (S2 : St) (la : Int32) (ad : Nat) (H : Heap) (locs : List Loc) (ls : Array Slot), b + n = 512 → (abR N dx dy dz g9 m9 n b S2 la ad = abD N dx dy dz g9 m9 S) → (bxS S2 1 = rwF dx dy dz (ad - 1) (bxS (cpF6 S 1 0) 1)) → (ad ≤ b) → wdM G S2 H s → va_S (g_A G) s.heap H locs → lv_has ls 10 [(9, .int (nI b)), (8, .int (nI ad)), (7, .int la), (0, .ref (g_ad G 0 0)), (1, .int (nI N)), (2, .float dx), (3, .float dy), (4, .float dz), (5, .int g9), (6, .int m9)] → W p l e ({ frames := 3, cells := 0, slots := 0, locals := 104 } : Room) s m ([.ref (g_ad G 0 0), .int (nI N), .float dx, .float dy, .float dz, .int g9, .int m9] : List Value).toArray below meth c H locs 0 0 (MQ below (Qi G ((abD N dx dy dz g9 m9 S).2.1) (abT N dx dy dz g9 m9 S)) ([.ref (g_ad G 0 0), .int (nI N), .float dx, .float dy, .float dz, .int g9, .int m9] : List Value).toArray s ({ frames := 3, cells := 0, slots := 0, locals := 104 } : Room).cells ({ frames := 3, cells := 0, slots := 0, locals := 104 } : Room).slots (g_A G)) (F0 m 20 ls []) := by
    intro n
    induction n with
    | zero =>
      intro b S2 la ad H locs ls hn hq hbx hab hw hS hl
      obtain rfl : b = 512 := by omega
      refine lv_iload hx hb dX3_addBodies_20 (lv_at hl 0 rfl) ?_
      refine lv_sipush (v := nI 512) hx hb dX3_addBodies_22 (by decide) ?_
      refine lv_icmp_ge (tgt := 94) hx hb dX3_addBodies_25 (by decide) (fun _ => ?_) (fun q => absurd (by decide) q)
      refine lv_aload_n hx hb dX3_addBodies_94 rfl (lv_at hl 3 rfl) ?_
      refine lv_dup hx hb dX3_addBodies_95 rfl ?_
      refine gf hx hb hown hts hw hT 0 0 (by decide) (ci := 3) rfl rfl (fun _ h => List.mem_cons_of_mem _ (List.mem_append_left _ (List.mem_append_left _ (List.mem_append_right _ h)))) 2 (by decide) (List.mem_of_getElem? (i := 5) rfl) (v := .int (nfS S2 0)) rfl dX3_addBodies_96 ?_
      refine lv_iload hx hb dX3_addBodies_99 (lv_at hl 1 rfl) ?_
      refine lv_iadd hx hb dX3_addBodies_101 ?_
      refine pf (S' := (nfU S2 (va_up (nfS S2) 0 ((nfS S2 0) + (nI ad))))) hx hb hown hts hw hT hS 0 0 (by decide) (ci := 3) rfl rfl (fun _ h => List.mem_cons_of_mem _ (List.mem_append_left _ (List.mem_append_left _ (List.mem_append_right _ h)))) tyX3 tyX3_ok nmX3 2 (by decide) (List.mem_of_getElem? (i := 5) rfl) rfl (ty := .int) (by decide +kernel) (vp_nar_int _) rfl (Nat.le_of_ble_eq_true rfl) (mup_nf0 G S2 ((nfS S2 0) + (nI ad))) dX3_addBodies_102 (fun H locs hw hS => ?_)
      refine lv_iload hx hb dX3_addBodies_105 (lv_at hl 2 rfl) ?_
      have e9 : abD N dx dy dz g9 m9 S = (S2, la, ad) := by
        rw [← hq]
        rfl
      exact ri hx hb hlk hr (by unfold abT; rw [e9]; exact hw) hS (by rw [e9]) (vp_nar_int _) (Nat.le_of_ble_eq_true rfl) (Nat.le_of_ble_eq_true rfl) dX3_addBodies_107
    | succ n ih =>
      intro b S2 la ad H locs ls hn hq hbx hab hw hS hl
      have hb9 : b < 512 := by omega
      refine lv_iload hx hb dX3_addBodies_20 (lv_at hl 0 rfl) ?_
      refine lv_sipush (v := nI 512) hx hb dX3_addBodies_22 (by decide) ?_
      refine lv_icmp_ge (tgt := 94) hx hb dX3_addBodies_25 (by decide) (fun q => absurd q (nI_ge hb9 (by decide))) (fun _ => ?_)
      refine lv_iload hx hb dX3_addBodies_28 (lv_at hl 1 rfl) ?_
      refine lv_iload_n hx hb dX3_addBodies_30 rfl (lv_at hl 4 rfl) ?_
      refine lv_icmp_ge (tgt := 94) hx hb dX3_addBodies_31 (by decide) (fun h3 => ?_) (fun h3 => ?_)
      · skip
        have h3 : N ≤ ad := (nI_leI (by omega) (by omega)).mp h3
        refine lv_aload_n hx hb dX3_addBodies_94 rfl (lv_at hl 3 rfl) ?_
        refine lv_dup hx hb dX3_addBodies_95 rfl ?_
        refine gf hx hb hown hts hw hT 0 0 (by decide) (ci := 3) rfl rfl (fun _ h => List.mem_cons_of_mem _ (List.mem_append_left _ (List.mem_append_left _ (List.mem_append_right _ h)))) 2 (by decide) (List.mem_of_getElem? (i := 5) rfl) (v := .int (nfS S2 0)) rfl dX3_addBodies_96 ?_
        refine lv_iload hx hb dX3_addBodies_99 (lv_at hl 1 rfl) ?_
        refine lv_iadd hx hb dX3_addBodies_101 ?_
        refine pf (S' := (nfU S2 (va_up (nfS S2) 0 ((nfS S2 0) + (nI ad))))) hx hb hown hts hw hT hS 0 0 (by decide) (ci := 3) rfl rfl (fun _ h => List.mem_cons_of_mem _ (List.mem_append_left _ (List.mem_append_left _ (List.mem_append_right _ h)))) tyX3 tyX3_ok nmX3 2 (by decide) (List.mem_of_getElem? (i := 5) rfl) rfl (ty := .int) (by decide +kernel) (vp_nar_int _) rfl (Nat.le_of_ble_eq_true rfl) (mup_nf0 G S2 ((nfS S2 0) + (nI ad))) dX3_addBodies_102 (fun H locs hw hS => ?_)
        refine lv_iload hx hb dX3_addBodies_105 (lv_at hl 2 rfl) ?_
        have e9 : abD N dx dy dz g9 m9 S = (S2, la, ad) := by
          rw [← hq]
          rw [abR, if_neg (by omega)]
        exact ri hx hb hlk hr (by unfold abT; rw [e9]; exact hw) hS (by rw [e9]) (vp_nar_int _) (Nat.le_of_ble_eq_true rfl) (Nat.le_of_ble_eq_true rfl) dX3_addBodies_107
      · skip
        have h3 : ¬ N ≤ ad := fun z => h3 ((nI_leI (by omega) (by omega)).mpr z)
        refine lv_aload_n hx hb dX3_addBodies_34 rfl (lv_at hl 3 rfl) ?_
        refine gf hx hb hown hts hw hT 0 0 (by decide) (ci := 3) rfl rfl (fun _ h => List.mem_cons_of_mem _ (List.mem_append_left _ (List.mem_append_left _ (List.mem_append_right _ h)))) 1 (by decide) (List.mem_of_getElem? (i := 3) rfl) (v := .ref (g_ad G 3 0)) rfl dX3_addBodies_35 ?_
        refine lv_iload hx hb dX3_addBodies_38 (lv_at hl 0 rfl) ?_
        refine abl hx hb hw hT b (show b < 512 by omega) dX3_addBodies_40 ?_
        refine gf hx hb hown hts hw hT 4 b (show b < 512 by omega) (ci := 0) rfl rfl (fun _ h => List.mem_cons_of_mem _ (List.mem_append_left _ (List.mem_append_right _ h))) 4 (by decide) (List.mem_of_getElem? (i := 4) rfl) (v := .int (bI (thS S2 b))) rfl dX3_addBodies_41 ?_
        refine lv_if_ne (tgt := 88) hx hb dX3_addBodies_44 (by decide) (fun h4 => ?_) (fun h4 => ?_)
        · skip
          have h4 := bI_n0.mp h4
          refine lv_iinc (v := nI (b + 1)) (lv' := [(9, .int (nI (b + 1))), (8, .int (nI ad)), (7, .int la), (0, .ref (g_ad G 0 0)), (1, .int (nI N)), (2, .float dx), (3, .float dy), (4, .float dz), (5, .int g9), (6, .int m9)]) hx hb dX3_addBodies_88 hl (k := 0) rfl (nI_add b 1) (by decide) rfl (fun ls hl => ?_)
          refine lv_goto (tgt := 20) hx hb dX3_addBodies_91 (by decide) ?_
          exact ih (b + 1) S2 la ad H locs ls (by omega) (by rw [← hq, abR, if_pos (show ad < N by omega), if_pos h4]) hbx (by omega) hw hS (lv_sub hl [0, 1, 2, 3, 4, 5, 6, 7, 8, 9] rfl)
        · skip
          have h4 := bI_0.mp h4
          refine lv_iload hx hb dX3_addBodies_47 (lv_at hl 1 rfl) ?_
          refine lv_if_le (tgt := 63) hx hb dX3_addBodies_49 (by decide) (fun h5 => ?_) (fun h5 => ?_)
          · skip
            have h5 : ad = 0 := (nz_le (by omega)).mp h5
            refine lv_aload_n hx hb dX3_addBodies_63 rfl (lv_at hl 3 rfl) ?_
            refine gf hx hb hown hts hw hT 0 0 (by decide) (ci := 3) rfl rfl (fun _ h => List.mem_cons_of_mem _ (List.mem_append_left _ (List.mem_append_left _ (List.mem_append_right _ h)))) 1 (by decide) (List.mem_of_getElem? (i := 3) rfl) (v := .ref (g_ad G 3 0)) rfl dX3_addBodies_64 ?_
            refine lv_iload hx hb dX3_addBodies_67 (lv_at hl 0 rfl) ?_
            refine abl hx hb hw hT b (show b < 512 by omega) dX3_addBodies_69 ?_
            refine lv_aload_n hx hb dX3_addBodies_70 rfl (lv_at hl 3 rfl) ?_
            refine gf hx hb hown hts hw hT 0 0 (by decide) (ci := 3) rfl rfl (fun _ h => List.mem_cons_of_mem _ (List.mem_append_left _ (List.mem_append_left _ (List.mem_append_right _ h)))) 11 (by decide) (List.mem_of_getElem? (i := 1) rfl) (v := .ref (g_ad G 1 1)) rfl dX3_addBodies_71 ?_
            refine lv_iload hx hb dX3_addBodies_74 (lv_at hl 8 rfl) ?_
            refine lv_iload hx hb dX3_addBodies_76 (lv_at hl 9 rfl) ?_
            refine cVv ⟨hx, hb, hml, hown, hts⟩ (c_appear l G S2 b (show b < 512 by omega) 1 (by decide) (by omega) (by omega) g9 m9 (ap_ok (by rw [hbx]; exact hrow _ (by omega)) (by omega))) (cwV 3 hts gX3_addBodies_X0_appear rfl rfl rfl (by decide +kernel) ⟨(Nat.le_of_ble_eq_true rfl), (Nat.le_of_ble_eq_true rfl)⟩) hw hT hS (rcv hw hT 4 b (show b < 512 by omega) rfl rfl) (As := [.ref (g_ad G 1 1), .int g9, .int m9]) (rest := []) rfl hl.1 rfl (Nat.le_of_ble_eq_true rfl) dX3_addBodies_78 ⟨(Nat.le_of_ble_eq_true rfl), (Nat.le_of_ble_eq_true rfl)⟩ (fun H locs hw hS => ?_)
            refine lv_iload hx hb dX3_addBodies_81 (lv_at hl 0 rfl) ?_
            refine lv_istore (lv' := [(7, .int (nI b)), (9, .int (nI b)), (8, .int (nI ad)), (0, .ref (g_ad G 0 0)), (1, .int (nI N)), (2, .float dx), (3, .float dy), (4, .float dz), (5, .int g9), (6, .int m9)]) hx hb dX3_addBodies_83 hl (by decide) rfl (fun ls hl => ?_)
            refine lv_iinc (v := nI (ad + 1)) (lv' := [(8, .int (nI (ad + 1))), (7, .int (nI b)), (9, .int (nI b)), (0, .ref (g_ad G 0 0)), (1, .int (nI N)), (2, .float dx), (3, .float dy), (4, .float dz), (5, .int g9), (6, .int m9)]) hx hb dX3_addBodies_85 hl (k := 2) rfl (nI_add ad 1) (by decide) rfl (fun ls hl => ?_)
            refine lv_iinc (v := nI (b + 1)) (lv' := [(9, .int (nI (b + 1))), (8, .int (nI (ad + 1))), (7, .int (nI b)), (0, .ref (g_ad G 0 0)), (1, .int (nI N)), (2, .float dx), (3, .float dy), (4, .float dz), (5, .int g9), (6, .int m9)]) hx hb dX3_addBodies_88 hl (k := 2) rfl (nI_add b 1) (by decide) rfl (fun ls hl => ?_)
            refine lv_goto (tgt := 20) hx hb dX3_addBodies_91 (by decide) ?_
            exact ih (b + 1) ((apS S2 b 1 g9 m9)) (nI b) (ad + 1) H locs ls (by omega) (by rw [← hq, abR, if_pos (show ad < N by omega), if_neg (by rw [h4]; decide), if_pos h5]) (by rw [ap_bx (by omega) (by omega), hbx]; congr 1; omega) (by omega) hw hS (lv_sub hl [0, 1, 2, 3, 4, 5, 6, 7, 8, 9] rfl)
          · skip
            have h5 : ¬ ad = 0 := fun z => h5 ((nz_le (by omega)).mpr z)
            refine lv_aload_n hx hb dX3_addBodies_52 rfl (lv_at hl 3 rfl) ?_
            refine gf hx hb hown hts hw hT 0 0 (by decide) (ci := 3) rfl rfl (fun _ h => List.mem_cons_of_mem _ (List.mem_append_left _ (List.mem_append_left _ (List.mem_append_right _ h)))) 11 (by decide) (List.mem_of_getElem? (i := 1) rfl) (v := .ref (g_ad G 1 1)) rfl dX3_addBodies_53 ?_
            refine lv_fload_n hx hb dX3_addBodies_56 rfl (lv_at hl 5 rfl) ?_
            refine lv_fload_n hx hb dX3_addBodies_57 rfl (lv_at hl 6 rfl) ?_
            refine lv_fload hx hb dX3_addBodies_58 (lv_at hl 7 rfl) ?_
            refine cVv ⟨hx, hb, hml, hown, hts⟩ (c_moveBy l G S2 1 (by decide) dx dy dz (mv_ok (by rw [hbx]; exact hrow _ (by omega)) hm)) (cwV 3 hts gX3_addBodies_X1_moveBy rfl rfl rfl (by decide +kernel) ⟨(Nat.le_of_ble_eq_true rfl), (Nat.le_of_ble_eq_true rfl)⟩) hw hT hS (rcv hw hT 1 1 (by decide) rfl rfl) (As := [.float dx, .float dy, .float dz]) (rest := []) rfl hl.1 rfl (Nat.le_of_ble_eq_true rfl) dX3_addBodies_60 ⟨(Nat.le_of_ble_eq_true rfl), (Nat.le_of_ble_eq_true rfl)⟩ (fun H locs hw hS => ?_)
            refine lv_aload_n hx hb dX3_addBodies_63 rfl (lv_at hl 3 rfl) ?_
            refine gf hx hb hown hts hw hT 0 0 (by decide) (ci := 3) rfl rfl (fun _ h => List.mem_cons_of_mem _ (List.mem_append_left _ (List.mem_append_left _ (List.mem_append_right _ h)))) 1 (by decide) (List.mem_of_getElem? (i := 3) rfl) (v := .ref (g_ad G 3 0)) rfl dX3_addBodies_64 ?_
            refine lv_iload hx hb dX3_addBodies_67 (lv_at hl 0 rfl) ?_
            refine abl hx hb hw hT b (show b < 512 by omega) dX3_addBodies_69 ?_
            refine lv_aload_n hx hb dX3_addBodies_70 rfl (lv_at hl 3 rfl) ?_
            refine gf hx hb hown hts hw hT 0 0 (by decide) (ci := 3) rfl rfl (fun _ h => List.mem_cons_of_mem _ (List.mem_append_left _ (List.mem_append_left _ (List.mem_append_right _ h)))) 11 (by decide) (List.mem_of_getElem? (i := 1) rfl) (v := .ref (g_ad G 1 1)) rfl dX3_addBodies_71 ?_
            refine lv_iload hx hb dX3_addBodies_74 (lv_at hl 8 rfl) ?_
            refine lv_iload hx hb dX3_addBodies_76 (lv_at hl 9 rfl) ?_
            refine cVv ⟨hx, hb, hml, hown, hts⟩ (c_appear l G (mvS S2 1 dx dy dz) b (show b < 512 by omega) 1 (by decide) (by omega) (by omega) g9 m9 (ap_ok (by rw [mv_b1, hbx, rw_s h5]; exact hrow _ (by omega)) (by omega))) (cwV 3 hts gX3_addBodies_X0_appear rfl rfl rfl (by decide +kernel) ⟨(Nat.le_of_ble_eq_true rfl), (Nat.le_of_ble_eq_true rfl)⟩) hw hT hS (rcv hw hT 4 b (show b < 512 by omega) rfl rfl) (As := [.ref (g_ad G 1 1), .int g9, .int m9]) (rest := []) rfl hl.1 rfl (Nat.le_of_ble_eq_true rfl) dX3_addBodies_78 ⟨(Nat.le_of_ble_eq_true rfl), (Nat.le_of_ble_eq_true rfl)⟩ (fun H locs hw hS => ?_)
            refine lv_iload hx hb dX3_addBodies_81 (lv_at hl 0 rfl) ?_
            refine lv_istore (lv' := [(7, .int (nI b)), (9, .int (nI b)), (8, .int (nI ad)), (0, .ref (g_ad G 0 0)), (1, .int (nI N)), (2, .float dx), (3, .float dy), (4, .float dz), (5, .int g9), (6, .int m9)]) hx hb dX3_addBodies_83 hl (by decide) rfl (fun ls hl => ?_)
            refine lv_iinc (v := nI (ad + 1)) (lv' := [(8, .int (nI (ad + 1))), (7, .int (nI b)), (9, .int (nI b)), (0, .ref (g_ad G 0 0)), (1, .int (nI N)), (2, .float dx), (3, .float dy), (4, .float dz), (5, .int g9), (6, .int m9)]) hx hb dX3_addBodies_85 hl (k := 2) rfl (nI_add ad 1) (by decide) rfl (fun ls hl => ?_)
            refine lv_iinc (v := nI (b + 1)) (lv' := [(9, .int (nI (b + 1))), (8, .int (nI (ad + 1))), (7, .int (nI b)), (0, .ref (g_ad G 0 0)), (1, .int (nI N)), (2, .float dx), (3, .float dy), (4, .float dz), (5, .int g9), (6, .int m9)]) hx hb dX3_addBodies_88 hl (k := 2) rfl (nI_add b 1) (by decide) rfl (fun ls hl => ?_)
            refine lv_goto (tgt := 20) hx hb dX3_addBodies_91 (by decide) ?_
            exact ih (b + 1) ((apS (mvS S2 1 dx dy dz) b 1 g9 m9)) (nI b) (ad + 1) H locs ls (by omega) (by rw [← hq, abR, if_pos (show ad < N by omega), if_neg (by rw [h4]; decide), if_neg h5]) (by rw [ap_bx (by omega) (by omega), mv_b1, hbx, rw_s h5]; congr 1) (by omega) hw hS (lv_sub hl [0, 1, 2, 3, 4, 5, 6, 7, 8, 9] rfl)
  exact LOOP 512 0 ((cpF6 S 1 0)) (-1) 0 _ _ ls (by omega) rfl rfl (by omega) hw hS (lv_sub hl [0, 1, 2, 3, 4, 5, 6, 7, 8, 9] rfl)
set_option maxRecDepth 100000 in
set_option maxHeartbeats 4000000 in
theorem c_reviewPairsOf (l : Launch) (G : Gm) (S : St) (hi1 : (ipS S).1 < 4) (hi2 : (ipS S).2 < 4) (k : Nat) (hk : k < 512) : Pv l yX3_reviewPairsOf wsX3_reviewPairsOf ({ frames := 2, cells := 0, slots := 0, locals := 43 } : Room) [.ref (g_ad G 0 0), .int (nI k)] G S (rvS S k 512) := by
  refine ent (cc := cX3_reviewPairsOf) (maxL := 5) (ret := none) (by decide) rfl (Nat.le_of_ble_eq_true rfl) ?_
  intro p e s m below meth c ls C hw hT hS hl
  obtain ⟨hx, hb, hr, hml, hown, hts, hlk⟩ := C
  have hl : lv_has ls 5 [(0, .ref (g_ad G 0 0)), (1, .int (nI k))] := hl
  refine lv_aload_n hx hb dX3_reviewPairsOf_0 rfl (lv_at hl 0 rfl) ?_
  refine gf hx hb hown hts hw hT 0 0 (by decide) (ci := 3) rfl rfl (fun _ h => List.mem_cons_of_mem _ (List.mem_append_left _ (List.mem_append_left _ (List.mem_append_left _ (List.mem_append_right _ h))))) 1 (by decide) (List.mem_of_getElem? (i := 1) rfl) (v := .ref (g_ad G 3 0)) rfl dX3_reviewPairsOf_1 ?_
  refine lv_iload_n hx hb dX3_reviewPairsOf_4 rfl (lv_at hl 1 rfl) ?_
  refine abl hx hb hw hT k (show k < 512 by omega) dX3_reviewPairsOf_5 ?_
  refine lv_astore_n (lv' := [(2, .ref (g_ad G 4 k)), (0, .ref (g_ad G 0 0)), (1, .int (nI k))]) hx hb dX3_reviewPairsOf_6 rfl hl (by decide) rfl (fun ls hl => ?_)
  refine lv_iconst (v := nI 0) hx hb dX3_reviewPairsOf_7 (by decide) ?_
  refine lv_istore_n (lv' := [(3, .int (nI 0)), (2, .ref (g_ad G 4 k)), (0, .ref (g_ad G 0 0)), (1, .int (nI k))]) hx hb dX3_reviewPairsOf_8 rfl hl (by decide) rfl (fun ls hl => ?_)
  have LOOP : ∀ (n o : Nat)  (H : Heap) (locs : List Loc) (ls : Array Slot), o + n = 512 → wdM G (rvS S k o) H s → va_S (g_A G) s.heap H locs → lv_has ls 5 [(3, .int (nI o)), (2, .ref (g_ad G 4 k)), (0, .ref (g_ad G 0 0)), (1, .int (nI k))] → W p l e ({ frames := 2, cells := 0, slots := 0, locals := 43 } : Room) s m ([.ref (g_ad G 0 0), .int (nI k)] : List Value).toArray below meth c H locs 0 0 (MQ below (Qv G (rvS S k 512)) ([.ref (g_ad G 0 0), .int (nI k)] : List Value).toArray s ({ frames := 2, cells := 0, slots := 0, locals := 43 } : Room).cells ({ frames := 2, cells := 0, slots := 0, locals := 43 } : Room).slots (g_A G)) (F0 m 9 ls []) := by
    intro n
    induction n with
    | zero =>
      intro o  H locs ls hn  hw hS hl
      obtain rfl : o = 512 := by omega
      refine lv_iload_n hx hb dX3_reviewPairsOf_9 rfl (lv_at hl 0 rfl) ?_
      refine lv_sipush (v := nI 512) hx hb dX3_reviewPairsOf_10 (by decide) ?_
      refine lv_icmp_ge (tgt := 78) hx hb dX3_reviewPairsOf_13 (by decide) (fun _ => ?_) (fun q => absurd (by decide) q)
      exact rv hx hb hlk hr hw hS  (Nat.le_of_ble_eq_true rfl) (Nat.le_of_ble_eq_true rfl) dX3_reviewPairsOf_78
    | succ n ih =>
      intro o  H locs ls hn  hw hS hl
      have ho : o < 512 := by omega
      have hip9 : (ipS (rvS S k o)).2 < 4 := by rw [rv_ip]; exact hi2
      have hpc := pcode_lt hk ho
      refine lv_iload_n hx hb dX3_reviewPairsOf_9 rfl (lv_at hl 0 rfl) ?_
      refine lv_sipush (v := nI 512) hx hb dX3_reviewPairsOf_10 (by decide) ?_
      refine lv_icmp_ge (tgt := 78) hx hb dX3_reviewPairsOf_13 (by decide) (fun q => absurd q (nI_ge ho (by decide))) (fun _ => ?_)
      refine lv_iload_n hx hb dX3_reviewPairsOf_16 rfl (lv_at hl 0 rfl) ?_
      refine lv_iload_n hx hb dX3_reviewPairsOf_17 rfl (lv_at hl 3 rfl) ?_
      refine lv_icmp_ge (tgt := 37) hx hb dX3_reviewPairsOf_18 (by decide) (fun h3 => ?_) (fun h3 => ?_)
      · skip
        have h3 : k ≤ o := (nI_leI (by omega) (by omega)).mp h3
        refine lv_iconst (v := nI 0) hx hb dX3_reviewPairsOf_37 (by decide) ?_
        refine lv_istore (lv' := [(4, .int (nI 0)), (3, .int (nI o)), (2, .ref (g_ad G 4 k)), (0, .ref (g_ad G 0 0)), (1, .int (nI k))]) hx hb dX3_reviewPairsOf_38 hl (by decide) rfl (fun ls hl => ?_)
        refine lv_iload_n hx hb dX3_reviewPairsOf_40 rfl (lv_at hl 1 rfl) ?_
        refine lv_iload_n hx hb dX3_reviewPairsOf_41 rfl (lv_at hl 4 rfl) ?_
        refine lv_icmp_eq (tgt := 72) hx hb dX3_reviewPairsOf_42 (by decide) (fun h4 => ?_) (fun h4 => ?_)
        · skip
          have h4 : o = k := (nI_eq (by omega) (by omega)).mp h4
          refine lv_iinc (v := nI (o + 1)) (lv' := [(3, .int (nI (o + 1))), (4, .int (nI 0)), (2, .ref (g_ad G 4 k)), (0, .ref (g_ad G 0 0)), (1, .int (nI k))]) hx hb dX3_reviewPairsOf_72 hl (k := 1) rfl (nI_add o 1) (by decide) rfl (fun ls hl => ?_)
          refine lv_goto (tgt := 9) hx hb dX3_reviewPairsOf_75 (by decide) ?_
          have hw : wdM G (rvS S k (o + 1)) H s := by
            rw [rvS, if_pos (by simp [h3, h4] <;> first | omega | (intro z; omega))]
            exact hw
          exact ih (o + 1)  H locs ls (by omega)  hw hS (lv_sub hl [0, 2, 3, 4] rfl)
        · skip
          have h4 : ¬ o = k := fun z => h4 ((nI_eq (by omega) (by omega)).mpr z)
          refine lv_iload hx hb dX3_reviewPairsOf_45 (lv_at hl 0 rfl) ?_
          refine lv_if_ne (tgt := 72) hx hb dX3_reviewPairsOf_47 (by decide) (fun q => absurd (by decide) q) (fun _ => ?_)
          refine lv_aload_n hx hb dX3_reviewPairsOf_50 rfl (lv_at hl 3 rfl) ?_
          refine gf hx hb hown hts hw hT 0 0 (by decide) (ci := 3) rfl rfl (fun _ h => List.mem_cons_of_mem _ (List.mem_append_left _ (List.mem_append_left _ (List.mem_append_left _ (List.mem_append_right _ h))))) 4 (by decide) (List.mem_of_getElem? (i := 3) rfl) (v := .ref (g_ad G 5 ((ipS (rvS S k o)).2))) rfl dX3_reviewPairsOf_51 ?_
          refine lv_iload_n hx hb dX3_reviewPairsOf_54 rfl (lv_at hl 4 rfl) ?_
          refine lv_iload_n hx hb dX3_reviewPairsOf_55 rfl (lv_at hl 1 rfl) ?_
          refine cSi ⟨hx, hb, hml, hown, hts⟩ (c_pairCode l G (rvS S k o) k (by omega) o (by omega)) (va_cwS 2 hts gX3_reviewPairsOf_X3_pairCode rfl rfl rfl (by decide +kernel) ⟨(Nat.le_of_ble_eq_true rfl), (Nat.le_of_ble_eq_true rfl)⟩) hw hT hS (As := [.int (nI k), .int (nI o)]) (rest := [.ref (g_ad G 5 ((ipS (rvS S k o)).2))]) rfl hl.1 rfl (Nat.le_of_ble_eq_true rfl) dX3_reviewPairsOf_56 ⟨(Nat.le_of_ble_eq_true rfl), (Nat.le_of_ble_eq_true rfl)⟩ (fun H locs hw hS => ?_)
          refine lv_aload_n hx hb dX3_reviewPairsOf_59 rfl (lv_at hl 2 rfl) ?_
          refine lv_aload_n hx hb dX3_reviewPairsOf_60 rfl (lv_at hl 3 rfl) ?_
          refine gf hx hb hown hts hw hT 0 0 (by decide) (ci := 3) rfl rfl (fun _ h => List.mem_cons_of_mem _ (List.mem_append_left _ (List.mem_append_left _ (List.mem_append_left _ (List.mem_append_right _ h))))) 1 (by decide) (List.mem_of_getElem? (i := 1) rfl) (v := .ref (g_ad G 3 0)) rfl dX3_reviewPairsOf_61 ?_
          refine lv_iload_n hx hb dX3_reviewPairsOf_64 rfl (lv_at hl 1 rfl) ?_
          refine abl hx hb hw hT o (show o < 512 by omega) dX3_reviewPairsOf_65 ?_
          refine cVi ⟨hx, hb, hml, hown, hts⟩ (c_pairsWith l G (rvS S k o) k (show k < 512 by omega) o (show o < 512 by omega)) (cwV 1 hts gX3_reviewPairsOf_X0_pairsWith rfl rfl rfl (by decide +kernel) ⟨(Nat.le_of_ble_eq_true rfl), (Nat.le_of_ble_eq_true rfl)⟩) hw hT hS (rcv hw hT 4 k (show k < 512 by omega) rfl rfl) (As := [.ref (g_ad G 4 o)]) (rest := [.int (nI (pcode k o)), .ref (g_ad G 5 ((ipS (rvS S k o)).2))]) rfl hl.1 rfl (Nat.le_of_ble_eq_true rfl) dX3_reviewPairsOf_66 ⟨(Nat.le_of_ble_eq_true rfl), (Nat.le_of_ble_eq_true rfl)⟩ (fun H locs hw hS => ?_)
          refine cVv ⟨hx, hb, hml, hown, hts⟩ (c_put l G (rvS S k o) ((ipS (rvS S k o)).2) (show (ipS (rvS S k o)).2 < 4 by omega) (pcode k o) (by omega) (pwB (rvS S k o) k o)) (cwV 2 hts gX3_reviewPairsOf_X2_put rfl rfl rfl (by decide +kernel) ⟨(Nat.le_of_ble_eq_true rfl), (Nat.le_of_ble_eq_true rfl)⟩) hw hT hS (rcv hw hT 5 ((ipS (rvS S k o)).2) (show (ipS (rvS S k o)).2 < 4 by omega) rfl rfl) (As := [.int (nI (pcode k o)), .int (bI (pwB (rvS S k o) k o))]) (rest := []) rfl hl.1 rfl (Nat.le_of_ble_eq_true rfl) dX3_reviewPairsOf_69 ⟨(Nat.le_of_ble_eq_true rfl), (Nat.le_of_ble_eq_true rfl)⟩ (fun H locs hw hS => ?_)
          refine lv_iinc (v := nI (o + 1)) (lv' := [(3, .int (nI (o + 1))), (4, .int (nI 0)), (2, .ref (g_ad G 4 k)), (0, .ref (g_ad G 0 0)), (1, .int (nI k))]) hx hb dX3_reviewPairsOf_72 hl (k := 1) rfl (nI_add o 1) (by decide) rfl (fun ls hl => ?_)
          refine lv_goto (tgt := 9) hx hb dX3_reviewPairsOf_75 (by decide) ?_
          have hw : wdM G (rvS S k (o + 1)) H s := by
            rw [rvS, if_neg (by simp [h3, h4] <;> first | omega | (intro z; omega))]
            exact hw
          exact ih (o + 1)  H locs ls (by omega)  hw hS (lv_sub hl [0, 2, 3, 4] rfl)
      · skip
        have h3 : ¬ k ≤ o := fun z => h3 ((nI_leI (by omega) (by omega)).mpr z)
        refine lv_aload_n hx hb dX3_reviewPairsOf_21 rfl (lv_at hl 2 rfl) ?_
        refine gf hx hb hown hts hw hT 0 0 (by decide) (ci := 3) rfl rfl (fun _ h => List.mem_cons_of_mem _ (List.mem_append_left _ (List.mem_append_left _ (List.mem_append_left _ (List.mem_append_right _ h))))) 1 (by decide) (List.mem_of_getElem? (i := 1) rfl) (v := .ref (g_ad G 3 0)) rfl dX3_reviewPairsOf_22 ?_
        refine lv_iload_n hx hb dX3_reviewPairsOf_25 rfl (lv_at hl 0 rfl) ?_
        refine abl hx hb hw hT o (show o < 512 by omega) dX3_reviewPairsOf_26 ?_
        refine gf hx hb hown hts hw hT 4 o (show o < 512 by omega) (ci := 0) rfl rfl (fun _ h => List.mem_cons_of_mem _ (List.mem_append_left _ (List.mem_append_left _ (List.mem_append_right _ h)))) 5 (by decide) (List.mem_of_getElem? (i := 2) rfl) (v := .int (bI (tcS (rvS S k o) o))) rfl dX3_reviewPairsOf_27 ?_
        refine lv_if_eq (tgt := 37) hx hb dX3_reviewPairsOf_30 (by decide) (fun h6 => ?_) (fun h6 => ?_)
        · skip
          have h6 := bI_0.mp h6
          refine lv_iconst (v := nI 0) hx hb dX3_reviewPairsOf_37 (by decide) ?_
          refine lv_istore (lv' := [(4, .int (nI 0)), (3, .int (nI o)), (2, .ref (g_ad G 4 k)), (0, .ref (g_ad G 0 0)), (1, .int (nI k))]) hx hb dX3_reviewPairsOf_38 hl (by decide) rfl (fun ls hl => ?_)
          refine lv_iload_n hx hb dX3_reviewPairsOf_40 rfl (lv_at hl 1 rfl) ?_
          refine lv_iload_n hx hb dX3_reviewPairsOf_41 rfl (lv_at hl 4 rfl) ?_
          refine lv_icmp_eq (tgt := 72) hx hb dX3_reviewPairsOf_42 (by decide) (fun q => absurd ((nI_eq (by omega) (by omega)).mp q) (by omega)) (fun _ => ?_)
          refine lv_iload hx hb dX3_reviewPairsOf_45 (lv_at hl 0 rfl) ?_
          refine lv_if_ne (tgt := 72) hx hb dX3_reviewPairsOf_47 (by decide) (fun q => absurd (by decide) q) (fun _ => ?_)
          refine lv_aload_n hx hb dX3_reviewPairsOf_50 rfl (lv_at hl 3 rfl) ?_
          refine gf hx hb hown hts hw hT 0 0 (by decide) (ci := 3) rfl rfl (fun _ h => List.mem_cons_of_mem _ (List.mem_append_left _ (List.mem_append_left _ (List.mem_append_left _ (List.mem_append_right _ h))))) 4 (by decide) (List.mem_of_getElem? (i := 3) rfl) (v := .ref (g_ad G 5 ((ipS (rvS S k o)).2))) rfl dX3_reviewPairsOf_51 ?_
          refine lv_iload_n hx hb dX3_reviewPairsOf_54 rfl (lv_at hl 4 rfl) ?_
          refine lv_iload_n hx hb dX3_reviewPairsOf_55 rfl (lv_at hl 1 rfl) ?_
          refine cSi ⟨hx, hb, hml, hown, hts⟩ (c_pairCode l G (rvS S k o) k (by omega) o (by omega)) (va_cwS 2 hts gX3_reviewPairsOf_X3_pairCode rfl rfl rfl (by decide +kernel) ⟨(Nat.le_of_ble_eq_true rfl), (Nat.le_of_ble_eq_true rfl)⟩) hw hT hS (As := [.int (nI k), .int (nI o)]) (rest := [.ref (g_ad G 5 ((ipS (rvS S k o)).2))]) rfl hl.1 rfl (Nat.le_of_ble_eq_true rfl) dX3_reviewPairsOf_56 ⟨(Nat.le_of_ble_eq_true rfl), (Nat.le_of_ble_eq_true rfl)⟩ (fun H locs hw hS => ?_)
          refine lv_aload_n hx hb dX3_reviewPairsOf_59 rfl (lv_at hl 2 rfl) ?_
          refine lv_aload_n hx hb dX3_reviewPairsOf_60 rfl (lv_at hl 3 rfl) ?_
          refine gf hx hb hown hts hw hT 0 0 (by decide) (ci := 3) rfl rfl (fun _ h => List.mem_cons_of_mem _ (List.mem_append_left _ (List.mem_append_left _ (List.mem_append_left _ (List.mem_append_right _ h))))) 1 (by decide) (List.mem_of_getElem? (i := 1) rfl) (v := .ref (g_ad G 3 0)) rfl dX3_reviewPairsOf_61 ?_
          refine lv_iload_n hx hb dX3_reviewPairsOf_64 rfl (lv_at hl 1 rfl) ?_
          refine abl hx hb hw hT o (show o < 512 by omega) dX3_reviewPairsOf_65 ?_
          refine cVi ⟨hx, hb, hml, hown, hts⟩ (c_pairsWith l G (rvS S k o) k (show k < 512 by omega) o (show o < 512 by omega)) (cwV 1 hts gX3_reviewPairsOf_X0_pairsWith rfl rfl rfl (by decide +kernel) ⟨(Nat.le_of_ble_eq_true rfl), (Nat.le_of_ble_eq_true rfl)⟩) hw hT hS (rcv hw hT 4 k (show k < 512 by omega) rfl rfl) (As := [.ref (g_ad G 4 o)]) (rest := [.int (nI (pcode k o)), .ref (g_ad G 5 ((ipS (rvS S k o)).2))]) rfl hl.1 rfl (Nat.le_of_ble_eq_true rfl) dX3_reviewPairsOf_66 ⟨(Nat.le_of_ble_eq_true rfl), (Nat.le_of_ble_eq_true rfl)⟩ (fun H locs hw hS => ?_)
          refine cVv ⟨hx, hb, hml, hown, hts⟩ (c_put l G (rvS S k o) ((ipS (rvS S k o)).2) (show (ipS (rvS S k o)).2 < 4 by omega) (pcode k o) (by omega) (pwB (rvS S k o) k o)) (cwV 2 hts gX3_reviewPairsOf_X2_put rfl rfl rfl (by decide +kernel) ⟨(Nat.le_of_ble_eq_true rfl), (Nat.le_of_ble_eq_true rfl)⟩) hw hT hS (rcv hw hT 5 ((ipS (rvS S k o)).2) (show (ipS (rvS S k o)).2 < 4 by omega) rfl rfl) (As := [.int (nI (pcode k o)), .int (bI (pwB (rvS S k o) k o))]) (rest := []) rfl hl.1 rfl (Nat.le_of_ble_eq_true rfl) dX3_reviewPairsOf_69 ⟨(Nat.le_of_ble_eq_true rfl), (Nat.le_of_ble_eq_true rfl)⟩ (fun H locs hw hS => ?_)
          refine lv_iinc (v := nI (o + 1)) (lv' := [(3, .int (nI (o + 1))), (4, .int (nI 0)), (2, .ref (g_ad G 4 k)), (0, .ref (g_ad G 0 0)), (1, .int (nI k))]) hx hb dX3_reviewPairsOf_72 hl (k := 1) rfl (nI_add o 1) (by decide) rfl (fun ls hl => ?_)
          refine lv_goto (tgt := 9) hx hb dX3_reviewPairsOf_75 (by decide) ?_
          have hw : wdM G (rvS S k (o + 1)) H s := by
            rw [rvS, if_neg (by simp [h3, h6] <;> first | omega | (intro z; omega))]
            exact hw
          exact ih (o + 1)  H locs ls (by omega)  hw hS (lv_sub hl [0, 2, 3, 4] rfl)
        · skip
          have h6 := bI_n0.mp h6
          refine lv_iconst (v := nI 1) hx hb dX3_reviewPairsOf_33 (by decide) ?_
          refine lv_goto (tgt := 38) hx hb dX3_reviewPairsOf_34 (by decide) ?_
          refine lv_istore (lv' := [(4, .int (nI 1)), (3, .int (nI o)), (2, .ref (g_ad G 4 k)), (0, .ref (g_ad G 0 0)), (1, .int (nI k))]) hx hb dX3_reviewPairsOf_38 hl (by decide) rfl (fun ls hl => ?_)
          refine lv_iload_n hx hb dX3_reviewPairsOf_40 rfl (lv_at hl 1 rfl) ?_
          refine lv_iload_n hx hb dX3_reviewPairsOf_41 rfl (lv_at hl 4 rfl) ?_
          refine lv_icmp_eq (tgt := 72) hx hb dX3_reviewPairsOf_42 (by decide) (fun q => absurd ((nI_eq (by omega) (by omega)).mp q) (by omega)) (fun _ => ?_)
          refine lv_iload hx hb dX3_reviewPairsOf_45 (lv_at hl 0 rfl) ?_
          refine lv_if_ne (tgt := 72) hx hb dX3_reviewPairsOf_47 (by decide) (fun _ => ?_) (fun q => absurd q (by decide))
          refine lv_iinc (v := nI (o + 1)) (lv' := [(3, .int (nI (o + 1))), (4, .int (nI 1)), (2, .ref (g_ad G 4 k)), (0, .ref (g_ad G 0 0)), (1, .int (nI k))]) hx hb dX3_reviewPairsOf_72 hl (k := 1) rfl (nI_add o 1) (by decide) rfl (fun ls hl => ?_)
          refine lv_goto (tgt := 9) hx hb dX3_reviewPairsOf_75 (by decide) ?_
          have hw : wdM G (rvS S k (o + 1)) H s := by
            rw [rvS, if_pos (by simp [h3, h6] <;> first | omega | (intro z; omega))]
            exact hw
          exact ih (o + 1)  H locs ls (by omega)  hw hS (lv_sub hl [0, 2, 3, 4] rfl)
  exact LOOP 512 0  _ _ ls (by omega)  hw hS (lv_sub hl [0, 1, 2, 3] rfl)
end
section
/-! PairFinder: its public methods, the first ones -/
theorem sw_out {x : Int32} {n : Nat} (hn : n < 2 ^ 31) (h : ∀ j, j < n → ¬ x = nI j) : x.toInt < 0 ∨ ((n : Int) - 1) < x.toInt := by
  rcases pk_ix x hn with q | q | ⟨j, hj, rfl⟩
  · exact Or.inl (by simpa using Int32.lt_iff_toInt_lt.mp q)
  · refine Or.inr ?_
    have := Int32.le_iff_toInt_le.mp q
    rw [nI_toInt hn] at this
    omega
  · exact absurd rfl (h j hj)
theorem sw_4 {j : Nat} (h : j < 4) : j = 0 ∨ j = 1 ∨ j = 2 ∨ j = 3 := by omega
theorem sw_7 {j : Nat} (h : j < 7) : j = 0 ∨ j = 1 ∨ j = 2 ∨ j = 3 ∨ j = 4 ∨ j = 5 ∨ j = 6 := by omega
def whX (wh n : Int32) : Option String := if wh < 0 then some xI else if wh < n then none else some xI
theorem wh_out {x : Int32} {n : Nat} (hn : n < 2 ^ 31) (h : x.toInt < 0 ∨ ((n : Int) - 1) < x.toInt) : whX x (nI n) = some xI := by
  unfold whX
  by_cases q : x < 0
  · rw [if_pos q]
  · rw [if_neg q, if_neg]
    intro z
    have z1 := Int32.lt_iff_toInt_lt.mp z
    rw [nI_toInt hn] at z1
    have q1 : ¬ x.toInt < 0 := fun y => q (Int32.lt_iff_toInt_lt.mpr (by simpa using y))
    rcases h with h | h
    · exact q1 h
    · omega
theorem nat_of {k : Int32} {n : Nat} (hn : n < 2 ^ 31) (h : ¬ k < 0) (h2 : k < nI n) : ∃ j, j < n ∧ k = nI j := by
  obtain ⟨j, hj, rfl⟩ := nI_of h
  exact ⟨j, (nI_ltI hj hn).mp h2, rfl⟩
def pcS (S : St) (q : Nat) (x y z : UInt32) : St := boxU S 0 (va_up (va_up (va_up (bxS S 0) q x) (q + 1) y) (q + 2) z)
theorem mvB_0 : mvB FP.fconst0 FP.fconst0 FP.fconst0 = true := by decide +kernel
theorem row_1 {S : St} {dx dy dz : UInt32} (hp : Gb (bxS S 0)) : ∀ t, t < 1 → Gb (rwF dx dy dz t (bxS (cpF6 S 1 0) 1)) := by
  intro t ht
  rw [show t = 0 by omega]
  show Gb (bxS (cpF6 S 1 0) 1)
  unfold cpF6
  rw [bx_s]
  exact cp_gb hp
theorem or_s {a b : Option String} {e : String} (h : a = some e) : orX a b = some e := by rw [h]; rfl
theorem or_n {a b c : Option String} (h : a = none) (h2 : b = c) : orX a b = c := by rw [h, ← h2]; rfl
theorem mov_t {dx dy dz : UInt32} (h : movX dx dy dz = none) : mvB dx dy dz = true := by
  unfold movX at h
  split at h
  · assumption
  · cases h
set_option maxRecDepth 100000 in
set_option maxHeartbeats 4000000 in
theorem c_low (l : Launch) (G : Gm) (S : St) (hl0 : l.stackTraces = false) (x y z : UInt32) : Tv l yX3_low wsX3_low ({ frames := 7, cells := 1, slots := 6, locals := 104 } : Room) [.ref (g_ad G 0 0), .float x, .float y, .float z] G S (goodX x y z) S (pcS S 0 x y z) := by
  refine entX (cc := cX3_low) (maxL := 4) (ret := none) (by decide) rfl (Nat.le_of_ble_eq_true rfl) ?_
  intro p e s m below meth c ls C hw hT hS hte hl
  obtain ⟨hx, hb, hr, hml, hown, hts, hlk⟩ := C
  have hz1 := hw.2.2.2.2.1
  have hz2 := hw.2.2.2.2.2
  have hl : lv_has ls 4 [(0, .ref (g_ad G 0 0)), (1, .float x), (2, .float y), (3, .float z)] := hl
  refine lv_fload_n hx hb dX3_low_0 rfl (lv_at hl 1 rfl) ?_
  refine lv_fload_n hx hb dX3_low_1 rfl (lv_at hl 2 rfl) ?_
  refine lv_fload_n hx hb dX3_low_2 rfl (lv_at hl 3 rfl) ?_
  refine xSv ⟨hx, hb, hml, hown, hts⟩ (c_requireGood l G S hl0 x y z) (va_cwS 3 hts gX3_low_X3_requireGood rfl rfl rfl (by decide +kernel) ⟨(Nat.le_of_ble_eq_true rfl), (Nat.le_of_ble_eq_true rfl)⟩) hw hT hS (As := [.float x, .float y, .float z]) (rest := []) rfl hl.1 rfl (Nat.le_of_ble_eq_true rfl) dX3_low_3 ⟨(Nat.le_of_ble_eq_true rfl), (Nat.le_of_ble_eq_true rfl)⟩ (fun E ce q9 H locs h1 hw hS hce hcv hcl => ?_) (fun H locs h1 hw hS => ?_)
  · skip
    exact xo hte hlk h1 hw hS hce hcv hcl (Nat.le_of_ble_eq_true rfl) (Nat.le_of_ble_eq_true rfl)
  refine lv_aload_n hx hb dX3_low_6 rfl (lv_at hl 0 rfl) ?_
  refine gf hx hb hown hts hw hT 0 0 (by decide) (ci := 3) rfl rfl (fun _ h => List.mem_cons_of_mem _ (List.mem_append_left _ (List.mem_append_left _ (List.mem_append_right _ h)))) 0 (by decide) (List.mem_of_getElem? (i := 1) rfl) (v := .ref (g_ad G 1 0)) rfl dX3_low_7 ?_
  refine lv_iconst (v := nI 0) hx hb dX3_low_10 (by decide) ?_
  refine lv_fload_n hx hb dX3_low_11 rfl (lv_at hl 1 rfl) ?_
  refine lv_fload_n hx hb dX3_low_12 rfl (lv_at hl 2 rfl) ?_
  refine lv_fload_n hx hb dX3_low_13 rfl (lv_at hl 3 rfl) ?_
  refine cVv ⟨hx, hb, hml, hown, hts⟩ (c_setCorner0 l G S 0 (by decide) x y z) (cwV 4 hts gX3_low_X1_setCorner rfl rfl rfl (by decide +kernel) ⟨(Nat.le_of_ble_eq_true rfl), (Nat.le_of_ble_eq_true rfl)⟩) hw hT hS (rcv hw hT 1 0 (by decide) rfl rfl) (As := [.int (nI 0), .float x, .float y, .float z]) (rest := []) rfl hl.1 rfl (Nat.le_of_ble_eq_true rfl) dX3_low_14 ⟨(Nat.le_of_ble_eq_true rfl), (Nat.le_of_ble_eq_true rfl)⟩ (fun H locs hw hS => ?_)
  exact rvx hx hb hlk hr hw hS h1 (Nat.le_of_ble_eq_true rfl) (Nat.le_of_ble_eq_true rfl) dX3_low_17
set_option maxRecDepth 100000 in
set_option maxHeartbeats 4000000 in
theorem c_high (l : Launch) (G : Gm) (S : St) (hl0 : l.stackTraces = false) (x y z : UInt32) : Tv l yX3_high wsX3_high ({ frames := 7, cells := 1, slots := 6, locals := 104 } : Room) [.ref (g_ad G 0 0), .float x, .float y, .float z] G S (goodX x y z) S (pcS S 3 x y z) := by
  refine entX (cc := cX3_high) (maxL := 4) (ret := none) (by decide) rfl (Nat.le_of_ble_eq_true rfl) ?_
  intro p e s m below meth c ls C hw hT hS hte hl
  obtain ⟨hx, hb, hr, hml, hown, hts, hlk⟩ := C
  have hz1 := hw.2.2.2.2.1
  have hz2 := hw.2.2.2.2.2
  have hl : lv_has ls 4 [(0, .ref (g_ad G 0 0)), (1, .float x), (2, .float y), (3, .float z)] := hl
  refine lv_fload_n hx hb dX3_high_0 rfl (lv_at hl 1 rfl) ?_
  refine lv_fload_n hx hb dX3_high_1 rfl (lv_at hl 2 rfl) ?_
  refine lv_fload_n hx hb dX3_high_2 rfl (lv_at hl 3 rfl) ?_
  refine xSv ⟨hx, hb, hml, hown, hts⟩ (c_requireGood l G S hl0 x y z) (va_cwS 3 hts gX3_high_X3_requireGood rfl rfl rfl (by decide +kernel) ⟨(Nat.le_of_ble_eq_true rfl), (Nat.le_of_ble_eq_true rfl)⟩) hw hT hS (As := [.float x, .float y, .float z]) (rest := []) rfl hl.1 rfl (Nat.le_of_ble_eq_true rfl) dX3_high_3 ⟨(Nat.le_of_ble_eq_true rfl), (Nat.le_of_ble_eq_true rfl)⟩ (fun E ce q9 H locs h1 hw hS hce hcv hcl => ?_) (fun H locs h1 hw hS => ?_)
  · skip
    exact xo hte hlk h1 hw hS hce hcv hcl (Nat.le_of_ble_eq_true rfl) (Nat.le_of_ble_eq_true rfl)
  refine lv_aload_n hx hb dX3_high_6 rfl (lv_at hl 0 rfl) ?_
  refine gf hx hb hown hts hw hT 0 0 (by decide) (ci := 3) rfl rfl (fun _ h => List.mem_cons_of_mem _ (List.mem_append_left _ (List.mem_append_left _ (List.mem_append_right _ h)))) 0 (by decide) (List.mem_of_getElem? (i := 1) rfl) (v := .ref (g_ad G 1 0)) rfl dX3_high_7 ?_
  refine lv_iconst (v := nI 3) hx hb dX3_high_10 (by decide) ?_
  refine lv_fload_n hx hb dX3_high_11 rfl (lv_at hl 1 rfl) ?_
  refine lv_fload_n hx hb dX3_high_12 rfl (lv_at hl 2 rfl) ?_
  refine lv_fload_n hx hb dX3_high_13 rfl (lv_at hl 3 rfl) ?_
  refine cVv ⟨hx, hb, hml, hown, hts⟩ (c_setCorner3 l G S 0 (by decide) x y z) (cwV 4 hts gX3_high_X1_setCorner rfl rfl rfl (by decide +kernel) ⟨(Nat.le_of_ble_eq_true rfl), (Nat.le_of_ble_eq_true rfl)⟩) hw hT hS (rcv hw hT 1 0 (by decide) rfl rfl) (As := [.int (nI 3), .float x, .float y, .float z]) (rest := []) rfl hl.1 rfl (Nat.le_of_ble_eq_true rfl) dX3_high_14 ⟨(Nat.le_of_ble_eq_true rfl), (Nat.le_of_ble_eq_true rfl)⟩ (fun H locs hw hS => ?_)
  exact rvx hx hb hlk hr hw hS h1 (Nat.le_of_ble_eq_true rfl) (Nat.le_of_ble_eq_true rfl) dX3_high_17
set_option maxRecDepth 100000 in
set_option maxHeartbeats 4000000 in
theorem c_add (l : Launch) (G : Gm) (S : St) (hl0 : l.stackTraces = false) (hp : Gb (bxS S 0)) (g9 m9 : Int32) : Ti l yX3_add wsX3_add ({ frames := 7, cells := 2, slots := 12, locals := 133 } : Room) [.ref (g_ad G 0 0), .int g9, .int m9] G S (orX (padX S) (roomX S (nI 1))) S ((abD 1 FP.fconst0 FP.fconst0 FP.fconst0 g9 m9 S).2.1) (abT 1 FP.fconst0 FP.fconst0 FP.fconst0 g9 m9 S) := by
  refine entX (cc := cX3_add) (maxL := 3) (ret := (some .int)) (by decide) rfl (Nat.le_of_ble_eq_true rfl) ?_
  intro p e s m below meth c ls C hw hT hS hte hl
  obtain ⟨hx, hb, hr, hml, hown, hts, hlk⟩ := C
  have hz1 := hw.2.2.2.2.1
  have hz2 := hw.2.2.2.2.2
  have hl : lv_has ls 3 [(0, .ref (g_ad G 0 0)), (1, .int g9), (2, .int m9)] := hl
  refine lv_aload_n hx hb dX3_add_0 rfl (lv_at hl 0 rfl) ?_
  refine xVv ⟨hx, hb, hml, hown, hts⟩ (c_requirePadIsBox l G S hl0) (cwV 0 hts gX3_add_X3_requirePadIsBox rfl rfl rfl (by decide +kernel) ⟨(Nat.le_of_ble_eq_true rfl), (Nat.le_of_ble_eq_true rfl)⟩) hw hT hS (rcv hw hT 0 0 (by decide) rfl rfl) (As := []) (rest := []) rfl hl.1 rfl (Nat.le_of_ble_eq_true rfl) dX3_add_1 ⟨(Nat.le_of_ble_eq_true rfl), (Nat.le_of_ble_eq_true rfl)⟩ (fun E ce q9 H locs h1 hw hS hce hcv hcl => ?_) (fun H locs h1 hw hS => ?_)
  · skip
    exact xo hte hlk (or_s h1) hw hS hce hcv hcl (Nat.le_of_ble_eq_true rfl) (Nat.le_of_ble_eq_true rfl)
  refine lv_aload_n hx hb dX3_add_4 rfl (lv_at hl 0 rfl) ?_
  refine lv_iconst (v := nI 1) hx hb dX3_add_5 (by decide) ?_
  refine xVv ⟨hx, hb, hml, hown, hts⟩ (c_requireRoomFor l G S hl0 (nI 1)) (cwV 1 hts gX3_add_X3_requireRoomFor rfl rfl rfl (by decide +kernel) ⟨(Nat.le_of_ble_eq_true rfl), (Nat.le_of_ble_eq_true rfl)⟩) hw hT hS (rcv hw hT 0 0 (by decide) rfl rfl) (As := [.int (nI 1)]) (rest := []) rfl hl.1 rfl (Nat.le_of_ble_eq_true rfl) dX3_add_6 ⟨(Nat.le_of_ble_eq_true rfl), (Nat.le_of_ble_eq_true rfl)⟩ (fun E ce q9 H locs h2 hw hS hce hcv hcl => ?_) (fun H locs h2 hw hS => ?_)
  · skip
    exact xo hte hlk (or_n h1 h2) hw hS hce hcv hcl (Nat.le_of_ble_eq_true rfl) (Nat.le_of_ble_eq_true rfl)
  refine lv_aload_n hx hb dX3_add_9 rfl (lv_at hl 0 rfl) ?_
  refine lv_iconst (v := nI 1) hx hb dX3_add_10 (by decide) ?_
  refine lv_fconst0 hx hb dX3_add_11 ?_
  refine lv_fconst0 hx hb dX3_add_12 ?_
  refine lv_fconst0 hx hb dX3_add_13 ?_
  refine lv_iload_n hx hb dX3_add_14 rfl (lv_at hl 1 rfl) ?_
  refine lv_iload_n hx hb dX3_add_15 rfl (lv_at hl 2 rfl) ?_
  refine cVi ⟨hx, hb, hml, hown, hts⟩ (c_addBodies l G S 1 (by omega) (by omega) FP.fconst0 FP.fconst0 FP.fconst0 g9 m9 mvB_0 (row_1 hp)) (cwV 6 hts gX3_add_X3_addBodies rfl rfl rfl (by decide +kernel) ⟨(Nat.le_of_ble_eq_true rfl), (Nat.le_of_ble_eq_true rfl)⟩) hw hT hS (rcv hw hT 0 0 (by decide) rfl rfl) (As := [.int (nI 1), .float FP.fconst0, .float FP.fconst0, .float FP.fconst0, .int g9, .int m9]) (rest := []) rfl hl.1 rfl (Nat.le_of_ble_eq_true rfl) dX3_add_16 ⟨(Nat.le_of_ble_eq_true rfl), (Nat.le_of_ble_eq_true rfl)⟩ (fun H locs hw hS => ?_)
  exact rix hx hb hlk hr hw hS (or_n h1 h2) rfl (vp_nar_int _) (Nat.le_of_ble_eq_true rfl) (Nat.le_of_ble_eq_true rfl) dX3_add_19
set_option maxRecDepth 100000 in
set_option maxHeartbeats 4000000 in
theorem c_move (l : Launch) (G : Gm) (S : St) (hl0 : l.stackTraces = false) (hp : Gb (bxS S 0)) (k : Int32) (dx dy dz : UInt32) : Ti l yX3_move wsX3_move ({ frames := 7, cells := 3, slots := 18, locals := 105 } : Room) [.ref (g_ad G 0 0), .int k, .float dx, .float dy, .float dz] G S (orX (thereX S k) (orX (padX S) (movX dx dy dz))) S (bI (!(mtB S (kN k) 0))) (mtS S (kN k) 0 dx dy dz) := by
  refine entX (cc := cX3_move) (maxL := 5) (ret := (some .boolean)) (by decide) rfl (Nat.le_of_ble_eq_true rfl) ?_
  intro p e s m below meth c ls C hw hT hS hte hl
  obtain ⟨hx, hb, hr, hml, hown, hts, hlk⟩ := C
  have hz1 := hw.2.2.2.2.1
  have hz2 := hw.2.2.2.2.2
  have hl : lv_has ls 5 [(0, .ref (g_ad G 0 0)), (1, .int k), (2, .float dx), (3, .float dy), (4, .float dz)] := hl
  refine lv_aload_n hx hb dX3_move_0 rfl (lv_at hl 0 rfl) ?_
  refine lv_iload_n hx hb dX3_move_1 rfl (lv_at hl 1 rfl) ?_
  refine xVv ⟨hx, hb, hml, hown, hts⟩ (c_requireThere l G S hl0 k) (cwV 1 hts gX3_move_X3_requireThere rfl rfl rfl (by decide +kernel) ⟨(Nat.le_of_ble_eq_true rfl), (Nat.le_of_ble_eq_true rfl)⟩) hw hT hS (rcv hw hT 0 0 (by decide) rfl rfl) (As := [.int k]) (rest := []) rfl hl.1 rfl (Nat.le_of_ble_eq_true rfl) dX3_move_2 ⟨(Nat.le_of_ble_eq_true rfl), (Nat.le_of_ble_eq_true rfl)⟩ (fun E ce q9 H locs h1 hw hS hce hcv hcl => ?_) (fun H locs h1 hw hS => ?_)
  · skip
    exact xo hte hlk (or_s h1) hw hS hce hcv hcl (Nat.le_of_ble_eq_true rfl) (Nat.le_of_ble_eq_true rfl)
  obtain ⟨kn, hkn, rfl, tkn⟩ := there_n h1
  refine lv_aload_n hx hb dX3_move_5 rfl (lv_at hl 0 rfl) ?_
  refine xVv ⟨hx, hb, hml, hown, hts⟩ (c_requirePadIsBox l G S hl0) (cwV 0 hts gX3_move_X3_requirePadIsBox rfl rfl rfl (by decide +kernel) ⟨(Nat.le_of_ble_eq_true rfl), (Nat.le_of_ble_eq_true rfl)⟩) hw hT hS (rcv hw hT 0 0 (by decide) rfl rfl) (As := []) (rest := []) rfl hl.1 rfl (Nat.le_of_ble_eq_true rfl) dX3_move_6 ⟨(Nat.le_of_ble_eq_true rfl), (Nat.le_of_ble_eq_true rfl)⟩ (fun E ce q9 H locs h2 hw hS hce hcv hcl => ?_) (fun H locs h2 hw hS => ?_)
  · skip
    exact xo hte hlk (or_n h1 (or_s h2)) hw hS hce hcv hcl (Nat.le_of_ble_eq_true rfl) (Nat.le_of_ble_eq_true rfl)
  refine lv_fload_n hx hb dX3_move_9 rfl (lv_at hl 2 rfl) ?_
  refine lv_fload_n hx hb dX3_move_10 rfl (lv_at hl 3 rfl) ?_
  refine lv_fload hx hb dX3_move_11 (lv_at hl 4 rfl) ?_
  refine xSv ⟨hx, hb, hml, hown, hts⟩ (c_requireMovement l G S hl0 dx dy dz) (va_cwS 3 hts gX3_move_X3_requireMovement rfl rfl rfl (by decide +kernel) ⟨(Nat.le_of_ble_eq_true rfl), (Nat.le_of_ble_eq_true rfl)⟩) hw hT hS (As := [.float dx, .float dy, .float dz]) (rest := []) rfl hl.1 rfl (Nat.le_of_ble_eq_true rfl) dX3_move_13 ⟨(Nat.le_of_ble_eq_true rfl), (Nat.le_of_ble_eq_true rfl)⟩ (fun E ce q9 H locs h3 hw hS hce hcv hcl => ?_) (fun H locs h3 hw hS => ?_)
  · skip
    exact xo hte hlk (or_n h1 (or_n h2 h3)) hw hS hce hcv hcl (Nat.le_of_ble_eq_true rfl) (Nat.le_of_ble_eq_true rfl)
  refine lv_aload_n hx hb dX3_move_16 rfl (lv_at hl 0 rfl) ?_
  refine gf hx hb hown hts hw hT 0 0 (by decide) (ci := 3) rfl rfl (fun _ h => List.mem_cons_of_mem _ (List.mem_append_left _ (List.mem_append_left _ (List.mem_append_left _ (List.mem_append_left _ (List.mem_append_right _ h)))))) 1 (by decide) (List.mem_of_getElem? (i := 1) rfl) (v := .ref (g_ad G 3 0)) rfl dX3_move_17 ?_
  refine lv_iload_n hx hb dX3_move_20 rfl (lv_at hl 1 rfl) ?_
  refine abl hx hb hw hT kn (show kn < 512 by omega) dX3_move_21 ?_
  refine lv_aload_n hx hb dX3_move_22 rfl (lv_at hl 0 rfl) ?_
  refine gf hx hb hown hts hw hT 0 0 (by decide) (ci := 3) rfl rfl (fun _ h => List.mem_cons_of_mem _ (List.mem_append_left _ (List.mem_append_left _ (List.mem_append_left _ (List.mem_append_left _ (List.mem_append_right _ h)))))) 0 (by decide) (List.mem_of_getElem? (i := 2) rfl) (v := .ref (g_ad G 1 0)) rfl dX3_move_23 ?_
  refine lv_fload_n hx hb dX3_move_26 rfl (lv_at hl 2 rfl) ?_
  refine lv_fload_n hx hb dX3_move_27 rfl (lv_at hl 3 rfl) ?_
  refine lv_fload hx hb dX3_move_28 (lv_at hl 4 rfl) ?_
  refine cVi ⟨hx, hb, hml, hown, hts⟩ (c_moveTo l G S kn (show kn < 512 by omega) 0 (by decide) (by omega) (by omega) dx dy dz (fun _ => mt_ok hp (by omega) (mov_t h3))) (cwV 4 hts gX3_move_X0_moveTo rfl rfl rfl (by decide +kernel) ⟨(Nat.le_of_ble_eq_true rfl), (Nat.le_of_ble_eq_true rfl)⟩) hw hT hS (rcv hw hT 4 kn (show kn < 512 by omega) rfl rfl) (As := [.ref (g_ad G 1 0), .float dx, .float dy, .float dz]) (rest := []) rfl hl.1 rfl (Nat.le_of_ble_eq_true rfl) dX3_move_30 ⟨(Nat.le_of_ble_eq_true rfl), (Nat.le_of_ble_eq_true rfl)⟩ (fun H locs hw hS => ?_)
  exact rix hx hb hlk hr (by rw [kN_nI (show kn < 65536 by omega)]; exact hw) hS (or_n h1 (or_n h2 h3)) (by rw [kN_nI (show kn < 65536 by omega)]) (bI_nar _) (Nat.le_of_ble_eq_true rfl) (Nat.le_of_ble_eq_true rfl) dX3_move_33
set_option maxRecDepth 100000 in
set_option maxHeartbeats 4000000 in
theorem c_filter (l : Launch) (G : Gm) (S : St) (hl0 : l.stackTraces = false) (k : Int32) (g9 m9 : Int32) : Tv l yX3_filter wsX3_filter ({ frames := 7, cells := 1, slots := 6, locals := 103 } : Room) [.ref (g_ad G 0 0), .int k, .int g9, .int m9] G S (thereX S k) S (flS S (kN k) g9 m9) := by
  refine entX (cc := cX3_filter) (maxL := 4) (ret := none) (by decide) rfl (Nat.le_of_ble_eq_true rfl) ?_
  intro p e s m below meth c ls C hw hT hS hte hl
  obtain ⟨hx, hb, hr, hml, hown, hts, hlk⟩ := C
  have hz1 := hw.2.2.2.2.1
  have hz2 := hw.2.2.2.2.2
  have hl : lv_has ls 4 [(0, .ref (g_ad G 0 0)), (1, .int k), (2, .int g9), (3, .int m9)] := hl
  refine lv_aload_n hx hb dX3_filter_0 rfl (lv_at hl 0 rfl) ?_
  refine lv_iload_n hx hb dX3_filter_1 rfl (lv_at hl 1 rfl) ?_
  refine xVv ⟨hx, hb, hml, hown, hts⟩ (c_requireThere l G S hl0 k) (cwV 1 hts gX3_filter_X3_requireThere rfl rfl rfl (by decide +kernel) ⟨(Nat.le_of_ble_eq_true rfl), (Nat.le_of_ble_eq_true rfl)⟩) hw hT hS (rcv hw hT 0 0 (by decide) rfl rfl) (As := [.int k]) (rest := []) rfl hl.1 rfl (Nat.le_of_ble_eq_true rfl) dX3_filter_2 ⟨(Nat.le_of_ble_eq_true rfl), (Nat.le_of_ble_eq_true rfl)⟩ (fun E ce q9 H locs h1 hw hS hce hcv hcl => ?_) (fun H locs h1 hw hS => ?_)
  · skip
    exact xo hte hlk h1 hw hS hce hcv hcl (Nat.le_of_ble_eq_true rfl) (Nat.le_of_ble_eq_true rfl)
  obtain ⟨kn, hkn, rfl, tkn⟩ := there_n h1
  refine lv_aload_n hx hb dX3_filter_5 rfl (lv_at hl 0 rfl) ?_
  refine gf hx hb hown hts hw hT 0 0 (by decide) (ci := 3) rfl rfl (fun _ h => List.mem_cons_of_mem _ (List.mem_append_left _ (List.mem_append_left _ (List.mem_append_right _ h)))) 1 (by decide) (List.mem_of_getElem? (i := 1) rfl) (v := .ref (g_ad G 3 0)) rfl dX3_filter_6 ?_
  refine lv_iload_n hx hb dX3_filter_9 rfl (lv_at hl 1 rfl) ?_
  refine abl hx hb hw hT kn (show kn < 512 by omega) dX3_filter_10 ?_
  refine lv_iload_n hx hb dX3_filter_11 rfl (lv_at hl 2 rfl) ?_
  refine lv_iload_n hx hb dX3_filter_12 rfl (lv_at hl 3 rfl) ?_
  refine cVv ⟨hx, hb, hml, hown, hts⟩ (c_setFilter l G S kn (show kn < 512 by omega) g9 m9) (cwV 2 hts gX3_filter_X0_setFilter rfl rfl rfl (by decide +kernel) ⟨(Nat.le_of_ble_eq_true rfl), (Nat.le_of_ble_eq_true rfl)⟩) hw hT hS (rcv hw hT 4 kn (show kn < 512 by omega) rfl rfl) (As := [.int g9, .int m9]) (rest := []) rfl hl.1 rfl (Nat.le_of_ble_eq_true rfl) dX3_filter_13 ⟨(Nat.le_of_ble_eq_true rfl), (Nat.le_of_ble_eq_true rfl)⟩ (fun H locs hw hS => ?_)
  exact rvx hx hb hlk hr (by rw [kN_nI (show kn < 65536 by omega)]; exact hw) hS h1 (Nat.le_of_ble_eq_true rfl) (Nat.le_of_ble_eq_true rfl) dX3_filter_16
set_option maxRecDepth 100000 in
set_option maxHeartbeats 4000000 in
theorem c_paired (l : Launch) (G : Gm) (S : St) (hl0 : l.stackTraces = false) (hi1 : (ipS S).1 < 4) (hi2 : (ipS S).2 < 4) (a b : Int32) : Ti l yX3_paired wsX3_paired ({ frames := 7, cells := 2, slots := 12, locals := 103 } : Room) [.ref (g_ad G 0 0), .int a, .int b] G S (orX (thereX S a) (thereX S b)) S (bI (apB S (kN a) (kN b))) S := by
  refine entX (cc := cX3_paired) (maxL := 3) (ret := (some .boolean)) (by decide) rfl (Nat.le_of_ble_eq_true rfl) ?_
  intro p e s m below meth c ls C hw hT hS hte hl
  obtain ⟨hx, hb, hr, hml, hown, hts, hlk⟩ := C
  have hz1 := hw.2.2.2.2.1
  have hz2 := hw.2.2.2.2.2
  have hl : lv_has ls 3 [(0, .ref (g_ad G 0 0)), (1, .int a), (2, .int b)] := hl
  refine lv_aload_n hx hb dX3_paired_0 rfl (lv_at hl 0 rfl) ?_
  refine lv_iload_n hx hb dX3_paired_1 rfl (lv_at hl 1 rfl) ?_
  refine xVv ⟨hx, hb, hml, hown, hts⟩ (c_requireThere l G S hl0 a) (cwV 1 hts gX3_paired_X3_requireThere rfl rfl rfl (by decide +kernel) ⟨(Nat.le_of_ble_eq_true rfl), (Nat.le_of_ble_eq_true rfl)⟩) hw hT hS (rcv hw hT 0 0 (by decide) rfl rfl) (As := [.int a]) (rest := []) rfl hl.1 rfl (Nat.le_of_ble_eq_true rfl) dX3_paired_2 ⟨(Nat.le_of_ble_eq_true rfl), (Nat.le_of_ble_eq_true rfl)⟩ (fun E ce q9 H locs h1 hw hS hce hcv hcl => ?_) (fun H locs h1 hw hS => ?_)
  · skip
    exact xo hte hlk (or_s h1) hw hS hce hcv hcl (Nat.le_of_ble_eq_true rfl) (Nat.le_of_ble_eq_true rfl)
  obtain ⟨an, han, rfl, tan⟩ := there_n h1
  refine lv_aload_n hx hb dX3_paired_5 rfl (lv_at hl 0 rfl) ?_
  refine lv_iload_n hx hb dX3_paired_6 rfl (lv_at hl 2 rfl) ?_
  refine xVv ⟨hx, hb, hml, hown, hts⟩ (c_requireThere l G S hl0 b) (cwV 1 hts gX3_paired_X3_requireThere rfl rfl rfl (by decide +kernel) ⟨(Nat.le_of_ble_eq_true rfl), (Nat.le_of_ble_eq_true rfl)⟩) hw hT hS (rcv hw hT 0 0 (by decide) rfl rfl) (As := [.int b]) (rest := []) rfl hl.1 rfl (Nat.le_of_ble_eq_true rfl) dX3_paired_7 ⟨(Nat.le_of_ble_eq_true rfl), (Nat.le_of_ble_eq_true rfl)⟩ (fun E ce q9 H locs h2 hw hS hce hcv hcl => ?_) (fun H locs h2 hw hS => ?_)
  · skip
    exact xo hte hlk (or_n h1 h2) hw hS hce hcv hcl (Nat.le_of_ble_eq_true rfl) (Nat.le_of_ble_eq_true rfl)
  obtain ⟨bn, hbn, rfl, tbn⟩ := there_n h2
  refine lv_aload_n hx hb dX3_paired_10 rfl (lv_at hl 0 rfl) ?_
  refine lv_iload_n hx hb dX3_paired_11 rfl (lv_at hl 1 rfl) ?_
  refine lv_iload_n hx hb dX3_paired_12 rfl (lv_at hl 2 rfl) ?_
  refine cVi ⟨hx, hb, hml, hown, hts⟩ (c_arePair l G S (by omega) (by omega) an (by omega) bn (by omega)) (cwV 2 hts gX3_paired_X3_arePair rfl rfl rfl (by decide +kernel) ⟨(Nat.le_of_ble_eq_true rfl), (Nat.le_of_ble_eq_true rfl)⟩) hw hT hS (rcv hw hT 0 0 (by decide) rfl rfl) (As := [.int (nI an), .int (nI bn)]) (rest := []) rfl hl.1 rfl (Nat.le_of_ble_eq_true rfl) dX3_paired_13 ⟨(Nat.le_of_ble_eq_true rfl), (Nat.le_of_ble_eq_true rfl)⟩ (fun H locs hw hS => ?_)
  exact rix hx hb hlk hr hw hS (or_n h1 h2) (by rw [kN_nI (show an < 65536 by omega), kN_nI (show bn < 65536 by omega)]) (bI_nar _) (Nat.le_of_ble_eq_true rfl) (Nat.le_of_ble_eq_true rfl) dX3_paired_16
theorem found_n {S : St} {k : Int32} {c : Nat} (hc : nfS S 2 = nI c) (hc5 : c ≤ 512) (h : foundX S k = none) : ∃ j, j < c ∧ k = nI j := by
  unfold foundX at h
  rw [hc] at h
  by_cases q : k < 0
  · rw [if_pos q] at h; cases h
  · rw [if_neg q] at h
    by_cases q2 : k < nI c
    · exact nat_of (by omega) q q2
    · rw [if_neg q2] at h; cases h
set_option maxRecDepth 100000 in
set_option maxHeartbeats 4000000 in
theorem c_found (l : Launch) (G : Gm) (S : St) (hl0 : l.stackTraces = false) (c9 : Nat) (hc : nfS S 2 = nI c9) (hc5 : c9 ≤ 512) (k : Int32) : Ti l yX3_found wsX3_found ({ frames := 7, cells := 1, slots := 6, locals := 103 } : Room) [.ref (g_ad G 0 0), .int k] G S (foundX S k) S (fbS S (kN k)) S := by
  refine entX (cc := cX3_found) (maxL := 2) (ret := (some .int)) (by decide) rfl (Nat.le_of_ble_eq_true rfl) ?_
  intro p e s m below meth c ls C hw hT hS hte hl
  obtain ⟨hx, hb, hr, hml, hown, hts, hlk⟩ := C
  have hz1 := hw.2.2.2.2.1
  have hz2 := hw.2.2.2.2.2
  have hl : lv_has ls 2 [(0, .ref (g_ad G 0 0)), (1, .int k)] := hl
  refine lv_aload_n hx hb dX3_found_0 rfl (lv_at hl 0 rfl) ?_
  refine lv_iload_n hx hb dX3_found_1 rfl (lv_at hl 1 rfl) ?_
  refine xVv ⟨hx, hb, hml, hown, hts⟩ (c_requireFound l G S hl0 k) (cwV 1 hts gX3_found_X3_requireFound rfl rfl rfl (by decide +kernel) ⟨(Nat.le_of_ble_eq_true rfl), (Nat.le_of_ble_eq_true rfl)⟩) hw hT hS (rcv hw hT 0 0 (by decide) rfl rfl) (As := [.int k]) (rest := []) rfl hl.1 rfl (Nat.le_of_ble_eq_true rfl) dX3_found_2 ⟨(Nat.le_of_ble_eq_true rfl), (Nat.le_of_ble_eq_true rfl)⟩ (fun E ce q9 H locs h1 hw hS hce hcv hcl => ?_) (fun H locs h1 hw hS => ?_)
  · skip
    exact xo hte hlk h1 hw hS hce hcv hcl (Nat.le_of_ble_eq_true rfl) (Nat.le_of_ble_eq_true rfl)
  obtain ⟨kn, hkn, rfl⟩ := found_n hc hc5 h1
  refine lv_aload_n hx hb dX3_found_5 rfl (lv_at hl 0 rfl) ?_
  refine gf hx hb hown hts hw hT 0 0 (by decide) (ci := 3) rfl rfl (fun _ h => List.mem_cons_of_mem _ (List.mem_append_left _ (List.mem_append_right _ h))) 8 (by decide) (List.mem_of_getElem? (i := 1) rfl) (v := .ref (g_ad G 7 0)) rfl dX3_found_6 ?_
  refine lv_iload_n hx hb dX3_found_9 rfl (lv_at hl 1 rfl) ?_
  refine ail hx hb hw hT 7 0 (by decide) (f := fbS S) rfl kn (show kn < 512 by omega) (by decide) dX3_found_10 ?_
  exact rix hx hb hlk hr hw hS h1 (by rw [kN_nI (show kn < 65536 by omega)]) (vp_nar_int _) (Nat.le_of_ble_eq_true rfl) (Nat.le_of_ble_eq_true rfl) dX3_found_11
set_option maxRecDepth 100000 in
set_option maxHeartbeats 4000000 in
theorem c_where (l : Launch) (G : Gm) (S : St) (hl0 : l.stackTraces = false) (c9 : Nat) (hc : nfS S 2 = nI c9) (hc5 : c9 ≤ 512) (k : Int32) : Tf l yX3_where wsX3_where ({ frames := 7, cells := 1, slots := 6, locals := 103 } : Room) [.ref (g_ad G 0 0), .int k] G S (foundX S k) S (ffS S (kN k)) S := by
  refine entX (cc := cX3_where) (maxL := 2) (ret := (some .float)) (by decide) rfl (Nat.le_of_ble_eq_true rfl) ?_
  intro p e s m below meth c ls C hw hT hS hte hl
  obtain ⟨hx, hb, hr, hml, hown, hts, hlk⟩ := C
  have hz1 := hw.2.2.2.2.1
  have hz2 := hw.2.2.2.2.2
  have hl : lv_has ls 2 [(0, .ref (g_ad G 0 0)), (1, .int k)] := hl
  refine lv_aload_n hx hb dX3_where_0 rfl (lv_at hl 0 rfl) ?_
  refine lv_iload_n hx hb dX3_where_1 rfl (lv_at hl 1 rfl) ?_
  refine xVv ⟨hx, hb, hml, hown, hts⟩ (c_requireFound l G S hl0 k) (cwV 1 hts gX3_where_X3_requireFound rfl rfl rfl (by decide +kernel) ⟨(Nat.le_of_ble_eq_true rfl), (Nat.le_of_ble_eq_true rfl)⟩) hw hT hS (rcv hw hT 0 0 (by decide) rfl rfl) (As := [.int k]) (rest := []) rfl hl.1 rfl (Nat.le_of_ble_eq_true rfl) dX3_where_2 ⟨(Nat.le_of_ble_eq_true rfl), (Nat.le_of_ble_eq_true rfl)⟩ (fun E ce q9 H locs h1 hw hS hce hcv hcl => ?_) (fun H locs h1 hw hS => ?_)
  · skip
    exact xo hte hlk h1 hw hS hce hcv hcl (Nat.le_of_ble_eq_true rfl) (Nat.le_of_ble_eq_true rfl)
  obtain ⟨kn, hkn, rfl⟩ := found_n hc hc5 h1
  refine lv_aload_n hx hb dX3_where_5 rfl (lv_at hl 0 rfl) ?_
  refine gf hx hb hown hts hw hT 0 0 (by decide) (ci := 3) rfl rfl (fun _ h => List.mem_cons_of_mem _ (List.mem_append_left _ (List.mem_append_right _ h))) 9 (by decide) (List.mem_of_getElem? (i := 1) rfl) (v := .ref (g_ad G 8 0)) rfl dX3_where_6 ?_
  refine lv_iload_n hx hb dX3_where_9 rfl (lv_at hl 1 rfl) ?_
  refine afl hx hb hw hT 8 0 (by decide) (f := ffS S) rfl kn (show kn < 512 by omega) (by decide) dX3_where_10 ?_
  exact rfx hx hb hlk hr hw hS h1 (by rw [kN_nI (show kn < 65536 by omega)]) (Nat.le_of_ble_eq_true rfl) (Nat.le_of_ble_eq_true rfl) dX3_where_11
def cnF (S : St) (k wh : Int32) : UInt32 := if wh < nI 6 then bxS S (2 * kN k + 3) (kN wh) else bxS S (2 * kN k + 2) (kN wh - 6)
set_option maxRecDepth 100000 in
set_option maxHeartbeats 4000000 in
theorem c_corner (l : Launch) (G : Gm) (S : St) (hl0 : l.stackTraces = false) (k wh : Int32) : Tf l yX3_corner wsX3_corner ({ frames := 7, cells := 2, slots := 12, locals := 103 } : Room) [.ref (g_ad G 0 0), .int k, .int wh] G S (orX (thereX S k) (whX wh (nI 12))) S (cnF S k wh) S := by
  refine entX (cc := cX3_corner) (maxL := 3) (ret := (some .float)) (by decide) rfl (Nat.le_of_ble_eq_true rfl) ?_
  intro p e s m below meth c ls C hw hT hS hte hl
  obtain ⟨hx, hb, hr, hml, hown, hts, hlk⟩ := C
  have hz1 := hw.2.2.2.2.1
  have hz2 := hw.2.2.2.2.2
  have hl : lv_has ls 3 [(0, .ref (g_ad G 0 0)), (1, .int k), (2, .int wh)] := hl
  refine lv_aload_n hx hb dX3_corner_0 rfl (lv_at hl 0 rfl) ?_
  refine lv_iload_n hx hb dX3_corner_1 rfl (lv_at hl 1 rfl) ?_
  refine xVv ⟨hx, hb, hml, hown, hts⟩ (c_requireThere l G S hl0 k) (cwV 1 hts gX3_corner_X3_requireThere rfl rfl rfl (by decide +kernel) ⟨(Nat.le_of_ble_eq_true rfl), (Nat.le_of_ble_eq_true rfl)⟩) hw hT hS (rcv hw hT 0 0 (by decide) rfl rfl) (As := [.int k]) (rest := []) rfl hl.1 rfl (Nat.le_of_ble_eq_true rfl) dX3_corner_2 ⟨(Nat.le_of_ble_eq_true rfl), (Nat.le_of_ble_eq_true rfl)⟩ (fun E ce q9 H locs h1 hw hS hce hcv hcl => ?_) (fun H locs h1 hw hS => ?_)
  · skip
    exact xo hte hlk (or_s h1) hw hS hce hcv hcl (Nat.le_of_ble_eq_true rfl) (Nat.le_of_ble_eq_true rfl)
  obtain ⟨kn, hkn, rfl, tkn⟩ := there_n h1
  refine lv_iload_n hx hb dX3_corner_5 rfl (lv_at hl 2 rfl) ?_
  refine lv_if_lt (tgt := 15) hx hb dX3_corner_6 (by decide) (fun h2 => ?_) (fun h2 => ?_)
  · skip
    exact thrI hx hb hl0 hown hts hlk hml hl.1 hw hT hS hte (or_n h1 (by simp [whX, h2])) (List.mem_of_getElem? (i := 1) rfl) (List.mem_of_getElem? (i := 2) rfl) (fun _ h => List.mem_cons_of_mem _ (List.mem_append_right _ h)) (List.mem_of_getElem? (i := 3) rfl) hS.1 dX3_corner_15 dX3_corner_18 dX3_corner_19 dX3_corner_21 dX3_corner_24 (Nat.le_of_ble_eq_true rfl) (Nat.le_of_ble_eq_true rfl) (Nat.le_of_ble_eq_true rfl) (Nat.le_of_ble_eq_true rfl) (Nat.le_of_ble_eq_true rfl) (Nat.le_of_ble_eq_true rfl) hz1 hz2
  · skip
    refine lv_iload_n hx hb dX3_corner_9 rfl (lv_at hl 2 rfl) ?_
    refine lv_bipush (v := nI 12) hx hb dX3_corner_10 (by decide) ?_
    refine lv_icmp_lt (tgt := 25) hx hb dX3_corner_12 (by decide) (fun h3 => ?_) (fun h3 => ?_)
    · skip
      obtain ⟨wn, hwn, rfl⟩ := nat_of (by decide) h2 h3
      refine lv_iload_n hx hb dX3_corner_25 rfl (lv_at hl 2 rfl) ?_
      refine lv_bipush (v := nI 6) hx hb dX3_corner_26 (by decide) ?_
      refine lv_icmp_ge (tgt := 46) hx hb dX3_corner_28 (by decide) (fun h4 => ?_) (fun h4 => ?_)
      · skip
        have h4 : 6 ≤ wn := (nI_leI (by omega) (by omega)).mp h4
        refine lv_aload_n hx hb dX3_corner_46 rfl (lv_at hl 0 rfl) ?_
        refine gf hx hb hown hts hw hT 0 0 (by decide) (ci := 3) rfl rfl (fun _ h => List.mem_cons_of_mem _ (List.mem_append_left _ (List.mem_append_left _ (List.mem_append_left _ (List.mem_append_right _ h))))) 1 (by decide) (List.mem_of_getElem? (i := 3) rfl) (v := .ref (g_ad G 3 0)) rfl dX3_corner_47 ?_
        refine lv_iload_n hx hb dX3_corner_50 rfl (lv_at hl 1 rfl) ?_
        refine abl hx hb hw hT kn (show kn < 512 by omega) dX3_corner_51 ?_
        refine gf hx hb hown hts hw hT 4 kn (show kn < 512 by omega) (ci := 0) rfl rfl (fun _ h => List.mem_cons_of_mem _ (List.mem_append_left _ (List.mem_append_left _ (List.mem_append_right _ h)))) 0 (by decide) (List.mem_of_getElem? (i := 6) rfl) (v := .ref (g_ad G 1 (2 * kn + 2))) rfl dX3_corner_52 ?_
        refine gf hx hb hown hts hw hT 1 (2 * kn + 2) (show 2 * kn + 2 < 1026 by omega) (ci := 1) rfl rfl (fun _ h => List.mem_cons_of_mem _ (List.mem_append_left _ (List.mem_append_right _ h))) 0 (by decide) (List.mem_of_getElem? (i := 5) rfl) (v := .ref (g_ad G 2 (2 * kn + 2))) rfl dX3_corner_55 ?_
        refine lv_iload_n hx hb dX3_corner_58 rfl (lv_at hl 2 rfl) ?_
        refine lv_bipush (v := nI 6) hx hb dX3_corner_59 (by decide) ?_
        refine lv_isub hx hb dX3_corner_61 ?_
        refine top_i (y := nI (wn - 6)) (pk_sub (by omega)) ?_
        refine afl hx hb hw hT 2 (2 * kn + 2) (show 2 * kn + 2 < 1026 by omega) (f := bxS S (2 * kn + 2)) rfl (wn - 6) (show wn - 6 < 6 by omega) (by decide) dX3_corner_62 ?_
        exact rfx hx hb hlk hr hw hS (or_n h1 (by unfold whX; rw [if_neg (nI_pos (by omega)), if_pos (nI_lt (by omega) (by decide))])) (by unfold cnF; rw [if_neg (nI_nlt (by omega) (by omega)), kN_nI (show kn < 65536 by omega), kN_nI (show wn < 65536 by omega)]) (Nat.le_of_ble_eq_true rfl) (Nat.le_of_ble_eq_true rfl) dX3_corner_63
      · skip
        have h4 : ¬ 6 ≤ wn := fun z => h4 ((nI_leI (by omega) (by omega)).mpr z)
        refine lv_aload_n hx hb dX3_corner_31 rfl (lv_at hl 0 rfl) ?_
        refine gf hx hb hown hts hw hT 0 0 (by decide) (ci := 3) rfl rfl (fun _ h => List.mem_cons_of_mem _ (List.mem_append_left _ (List.mem_append_left _ (List.mem_append_left _ (List.mem_append_right _ h))))) 1 (by decide) (List.mem_of_getElem? (i := 3) rfl) (v := .ref (g_ad G 3 0)) rfl dX3_corner_32 ?_
        refine lv_iload_n hx hb dX3_corner_35 rfl (lv_at hl 1 rfl) ?_
        refine abl hx hb hw hT kn (show kn < 512 by omega) dX3_corner_36 ?_
        refine gf hx hb hown hts hw hT 4 kn (show kn < 512 by omega) (ci := 0) rfl rfl (fun _ h => List.mem_cons_of_mem _ (List.mem_append_left _ (List.mem_append_left _ (List.mem_append_right _ h)))) 1 (by decide) (List.mem_of_getElem? (i := 4) rfl) (v := .ref (g_ad G 1 (2 * kn + 3))) rfl dX3_corner_37 ?_
        refine gf hx hb hown hts hw hT 1 (2 * kn + 3) (show 2 * kn + 3 < 1026 by omega) (ci := 1) rfl rfl (fun _ h => List.mem_cons_of_mem _ (List.mem_append_left _ (List.mem_append_right _ h))) 0 (by decide) (List.mem_of_getElem? (i := 5) rfl) (v := .ref (g_ad G 2 (2 * kn + 3))) rfl dX3_corner_40 ?_
        refine lv_iload_n hx hb dX3_corner_43 rfl (lv_at hl 2 rfl) ?_
        refine afl hx hb hw hT 2 (2 * kn + 3) (show 2 * kn + 3 < 1026 by omega) (f := bxS S (2 * kn + 3)) rfl wn (show wn < 6 by omega) (by decide) dX3_corner_44 ?_
        exact rfx hx hb hlk hr hw hS (or_n h1 (by unfold whX; rw [if_neg (nI_pos (by omega)), if_pos (nI_lt (by omega) (by decide))])) (by unfold cnF; rw [if_pos (nI_lt (by omega) (by decide)), kN_nI (show kn < 65536 by omega), kN_nI (show wn < 65536 by omega)]) (Nat.le_of_ble_eq_true rfl) (Nat.le_of_ble_eq_true rfl) dX3_corner_45
    · skip
      exact thrI hx hb hl0 hown hts hlk hml hl.1 hw hT hS hte (or_n h1 (by simp [whX, h2, h3])) (List.mem_of_getElem? (i := 1) rfl) (List.mem_of_getElem? (i := 2) rfl) (fun _ h => List.mem_cons_of_mem _ (List.mem_append_right _ h)) (List.mem_of_getElem? (i := 3) rfl) hS.1 dX3_corner_15 dX3_corner_18 dX3_corner_19 dX3_corner_21 dX3_corner_24 (Nat.le_of_ble_eq_true rfl) (Nat.le_of_ble_eq_true rfl) (Nat.le_of_ble_eq_true rfl) (Nat.le_of_ble_eq_true rfl) (Nat.le_of_ble_eq_true rfl) (Nat.le_of_ble_eq_true rfl) hz1 hz2
def abF (S : St) (k wh : Int32) : Int32 := if wh = nI 0 then grS S (kN k) else if wh = nI 1 then mkS S (kN k) else if wh = nI 2 then nI (ctB (apB S (kN k)) 512) else bI (tcS S (kN k))
def coF (S : St) (wh : Int32) : Int32 := if wh = nI 0 then nfS S 0 else if wh = nI 1 then psS S (ipS S).1 else if wh = nI 2 then psS S 2 else if wh = nI 3 then psS S 3 else if wh = nI 4 then nfS S 1 else if wh = nI 5 then nI (ctB (tcS S) 512) else nfS S 2
set_option maxRecDepth 100000 in
set_option maxHeartbeats 4000000 in
theorem c_about (l : Launch) (G : Gm) (S : St) (hl0 : l.stackTraces = false) (hi1 : (ipS S).1 < 4) (hi2 : (ipS S).2 < 4) (k wh : Int32) : Ti l yX3_about wsX3_about ({ frames := 7, cells := 2, slots := 12, locals := 103 } : Room) [.ref (g_ad G 0 0), .int k, .int wh] G S (orX (thereX S k) (whX wh (nI 4))) S (abF S k wh) S := by
  refine entX (cc := cX3_about) (maxL := 3) (ret := (some .int)) (by decide) rfl (Nat.le_of_ble_eq_true rfl) ?_
  intro p e s m below meth c ls C hw hT hS hte hl
  obtain ⟨hx, hb, hr, hml, hown, hts, hlk⟩ := C
  have hz1 := hw.2.2.2.2.1
  have hz2 := hw.2.2.2.2.2
  have hl : lv_has ls 3 [(0, .ref (g_ad G 0 0)), (1, .int k), (2, .int wh)] := hl
  refine lv_aload_n hx hb dX3_about_0 rfl (lv_at hl 0 rfl) ?_
  refine lv_iload_n hx hb dX3_about_1 rfl (lv_at hl 1 rfl) ?_
  refine xVv ⟨hx, hb, hml, hown, hts⟩ (c_requireThere l G S hl0 k) (cwV 1 hts gX3_about_X3_requireThere rfl rfl rfl (by decide +kernel) ⟨(Nat.le_of_ble_eq_true rfl), (Nat.le_of_ble_eq_true rfl)⟩) hw hT hS (rcv hw hT 0 0 (by decide) rfl rfl) (As := [.int k]) (rest := []) rfl hl.1 rfl (Nat.le_of_ble_eq_true rfl) dX3_about_2 ⟨(Nat.le_of_ble_eq_true rfl), (Nat.le_of_ble_eq_true rfl)⟩ (fun E ce q9 H locs h1 hw hS hce hcv hcl => ?_) (fun H locs h1 hw hS => ?_)
  · skip
    exact xo hte hlk (or_s h1) hw hS hce hcv hcl (Nat.le_of_ble_eq_true rfl) (Nat.le_of_ble_eq_true rfl)
  obtain ⟨kn, hkn, rfl, tkn⟩ := there_n h1
  refine lv_iload_n hx hb dX3_about_5 rfl (lv_at hl 2 rfl) ?_
  by_cases h2 : wh = nI 0
  · skip
    subst h2
    refine lv_tableIn (off := 30) (tgt := 36) hx hb dX3_about_6 (by decide) (by decide) (by decide) (by decide) ?_
    refine lv_aload_n hx hb dX3_about_36 rfl (lv_at hl 0 rfl) ?_
    refine gf hx hb hown hts hw hT 0 0 (by decide) (ci := 3) rfl rfl (fun _ h => List.mem_cons_of_mem _ (List.mem_append_left _ (List.mem_append_left _ (List.mem_append_left _ (List.mem_append_right _ h))))) 1 (by decide) (List.mem_of_getElem? (i := 3) rfl) (v := .ref (g_ad G 3 0)) rfl dX3_about_37 ?_
    refine lv_iload_n hx hb dX3_about_40 rfl (lv_at hl 1 rfl) ?_
    refine abl hx hb hw hT kn (show kn < 512 by omega) dX3_about_41 ?_
    refine gf hx hb hown hts hw hT 4 kn (show kn < 512 by omega) (ci := 0) rfl rfl (fun _ h => List.mem_cons_of_mem _ (List.mem_append_left _ (List.mem_append_left _ (List.mem_append_right _ h)))) 2 (by decide) (List.mem_of_getElem? (i := 4) rfl) (v := .int (grS S kn)) rfl dX3_about_42 ?_
    exact rix hx hb hlk hr hw hS (or_n h1 (by decide)) (by unfold abF; rw [if_pos (show nI 0 = nI 0 from rfl), kN_nI (show kn < 65536 by omega)]) (vp_nar_int _) (Nat.le_of_ble_eq_true rfl) (Nat.le_of_ble_eq_true rfl) dX3_about_45
  by_cases h3 : wh = nI 1
  · skip
    subst h3
    refine lv_tableIn (off := 40) (tgt := 46) hx hb dX3_about_6 (by decide) (by decide) (by decide) (by decide) ?_
    refine lv_aload_n hx hb dX3_about_46 rfl (lv_at hl 0 rfl) ?_
    refine gf hx hb hown hts hw hT 0 0 (by decide) (ci := 3) rfl rfl (fun _ h => List.mem_cons_of_mem _ (List.mem_append_left _ (List.mem_append_left _ (List.mem_append_left _ (List.mem_append_right _ h))))) 1 (by decide) (List.mem_of_getElem? (i := 3) rfl) (v := .ref (g_ad G 3 0)) rfl dX3_about_47 ?_
    refine lv_iload_n hx hb dX3_about_50 rfl (lv_at hl 1 rfl) ?_
    refine abl hx hb hw hT kn (show kn < 512 by omega) dX3_about_51 ?_
    refine gf hx hb hown hts hw hT 4 kn (show kn < 512 by omega) (ci := 0) rfl rfl (fun _ h => List.mem_cons_of_mem _ (List.mem_append_left _ (List.mem_append_left _ (List.mem_append_right _ h)))) 3 (by decide) (List.mem_of_getElem? (i := 5) rfl) (v := .int (mkS S kn)) rfl dX3_about_52 ?_
    exact rix hx hb hlk hr hw hS (or_n h1 (by decide)) (by unfold abF; rw [if_neg (show ¬ nI 1 = nI 0 by decide), if_pos (show nI 1 = nI 1 from rfl), kN_nI (show kn < 65536 by omega)]) (vp_nar_int _) (Nat.le_of_ble_eq_true rfl) (Nat.le_of_ble_eq_true rfl) dX3_about_55
  by_cases h4 : wh = nI 2
  · skip
    subst h4
    refine lv_tableIn (off := 50) (tgt := 56) hx hb dX3_about_6 (by decide) (by decide) (by decide) (by decide) ?_
    refine lv_aload_n hx hb dX3_about_56 rfl (lv_at hl 0 rfl) ?_
    refine lv_iload_n hx hb dX3_about_57 rfl (lv_at hl 1 rfl) ?_
    refine cVi ⟨hx, hb, hml, hown, hts⟩ (c_pairsOf l G S (by omega) (by omega) kn (by omega)) (cwV 1 hts gX3_about_X3_pairsOf rfl rfl rfl (by decide +kernel) ⟨(Nat.le_of_ble_eq_true rfl), (Nat.le_of_ble_eq_true rfl)⟩) hw hT hS (rcv hw hT 0 0 (by decide) rfl rfl) (As := [.int (nI kn)]) (rest := []) rfl hl.1 rfl (Nat.le_of_ble_eq_true rfl) dX3_about_58 ⟨(Nat.le_of_ble_eq_true rfl), (Nat.le_of_ble_eq_true rfl)⟩ (fun H locs hw hS => ?_)
    exact rix hx hb hlk hr hw hS (or_n h1 (by decide)) (by unfold abF; rw [if_neg (show ¬ nI 2 = nI 0 by decide), if_neg (show ¬ nI 2 = nI 1 by decide), if_pos (show nI 2 = nI 2 from rfl), kN_nI (show kn < 65536 by omega)]) (vp_nar_int _) (Nat.le_of_ble_eq_true rfl) (Nat.le_of_ble_eq_true rfl) dX3_about_61
  by_cases h5 : wh = nI 3
  · skip
    subst h5
    refine lv_tableIn (off := 56) (tgt := 62) hx hb dX3_about_6 (by decide) (by decide) (by decide) (by decide) ?_
    refine lv_aload_n hx hb dX3_about_62 rfl (lv_at hl 0 rfl) ?_
    refine gf hx hb hown hts hw hT 0 0 (by decide) (ci := 3) rfl rfl (fun _ h => List.mem_cons_of_mem _ (List.mem_append_left _ (List.mem_append_left _ (List.mem_append_left _ (List.mem_append_right _ h))))) 1 (by decide) (List.mem_of_getElem? (i := 3) rfl) (v := .ref (g_ad G 3 0)) rfl dX3_about_63 ?_
    refine lv_iload_n hx hb dX3_about_66 rfl (lv_at hl 1 rfl) ?_
    refine abl hx hb hw hT kn (show kn < 512 by omega) dX3_about_67 ?_
    refine gf hx hb hown hts hw hT 4 kn (show kn < 512 by omega) (ci := 0) rfl rfl (fun _ h => List.mem_cons_of_mem _ (List.mem_append_left _ (List.mem_append_left _ (List.mem_append_right _ h)))) 5 (by decide) (List.mem_of_getElem? (i := 6) rfl) (v := .int (bI (tcS S kn))) rfl dX3_about_68 ?_
    refine lv_if_eq (tgt := 78) hx hb dX3_about_71 (by decide) (fun h6 => ?_) (fun h6 => ?_)
    · skip
      have h6 := bI_0.mp h6
      refine lv_iconst (v := nI 0) hx hb dX3_about_78 (by decide) ?_
      exact rix hx hb hlk hr hw hS (or_n h1 (by decide)) (by unfold abF; rw [if_neg (show ¬ nI 3 = nI 0 by decide), if_neg (show ¬ nI 3 = nI 1 by decide), if_neg (show ¬ nI 3 = nI 2 by decide), kN_nI (show kn < 65536 by omega)]; rw [h6]; rfl) (vp_nar_int _) (Nat.le_of_ble_eq_true rfl) (Nat.le_of_ble_eq_true rfl) dX3_about_79
    · skip
      have h6 := bI_n0.mp h6
      refine lv_iconst (v := nI 1) hx hb dX3_about_74 (by decide) ?_
      refine lv_goto (tgt := 79) hx hb dX3_about_75 (by decide) ?_
      exact rix hx hb hlk hr hw hS (or_n h1 (by decide)) (by unfold abF; rw [if_neg (show ¬ nI 3 = nI 0 by decide), if_neg (show ¬ nI 3 = nI 1 by decide), if_neg (show ¬ nI 3 = nI 2 by decide), kN_nI (show kn < 65536 by omega)]; rw [h6]; rfl) (vp_nar_int _) (Nat.le_of_ble_eq_true rfl) (Nat.le_of_ble_eq_true rfl) dX3_about_79
  have h7 := sw_out (n := 4) (x := wh) (by decide) (fun j hj => by rcases sw_4 hj with rfl | rfl | rfl | rfl <;> assumption)
  refine lv_tableOut (tgt := 80) hx hb dX3_about_6 h7 (by decide) ?_
  exact thrI hx hb hl0 hown hts hlk hml hl.1 hw hT hS hte (or_n h1 (wh_out (by decide) h7)) (List.mem_of_getElem? (i := 1) rfl) (List.mem_of_getElem? (i := 2) rfl) (fun _ h => List.mem_cons_of_mem _ (List.mem_append_right _ h)) (List.mem_of_getElem? (i := 4) rfl) hS.1 dX3_about_80 dX3_about_83 dX3_about_84 dX3_about_86 dX3_about_89 (Nat.le_of_ble_eq_true rfl) (Nat.le_of_ble_eq_true rfl) (Nat.le_of_ble_eq_true rfl) (Nat.le_of_ble_eq_true rfl) (Nat.le_of_ble_eq_true rfl) (Nat.le_of_ble_eq_true rfl) hz1 hz2
set_option maxRecDepth 100000 in
set_option maxHeartbeats 4000000 in
theorem c_count (l : Launch) (G : Gm) (S : St) (hl0 : l.stackTraces = false) (hi1 : (ipS S).1 < 4) (hi2 : (ipS S).2 < 4) (wh : Int32) : Ti l yX3_count wsX3_count ({ frames := 6, cells := 1, slots := 6, locals := 82 } : Room) [.ref (g_ad G 0 0), .int wh] G S (whX wh (nI 7)) S (coF S wh) S := by
  refine entX (cc := cX3_count) (maxL := 2) (ret := (some .int)) (by decide) rfl (Nat.le_of_ble_eq_true rfl) ?_
  intro p e s m below meth c ls C hw hT hS hte hl
  obtain ⟨hx, hb, hr, hml, hown, hts, hlk⟩ := C
  have hz1 := hw.2.2.2.2.1
  have hz2 := hw.2.2.2.2.2
  have hl : lv_has ls 2 [(0, .ref (g_ad G 0 0)), (1, .int wh)] := hl
  refine lv_iload_n hx hb dX3_count_0 rfl (lv_at hl 1 rfl) ?_
  by_cases h1 : wh = nI 0
  · skip
    subst h1
    refine lv_tableIn (off := 43) (tgt := 44) hx hb dX3_count_1 (by decide) (by decide) (by decide) (by decide) ?_
    refine lv_aload_n hx hb dX3_count_44 rfl (lv_at hl 0 rfl) ?_
    refine gf hx hb hown hts hw hT 0 0 (by decide) (ci := 3) rfl rfl (fun _ h => List.mem_cons_of_mem _ (List.mem_append_left _ (List.mem_append_left _ (List.mem_append_left _ (List.mem_append_right _ h))))) 2 (by decide) (List.mem_of_getElem? (i := 3) rfl) (v := .int (nfS S 0)) rfl dX3_count_45 ?_
    exact rix hx hb hlk hr hw hS (by decide) (by unfold coF; rw [if_pos (show nI 0 = nI 0 from rfl)]) (vp_nar_int _) (Nat.le_of_ble_eq_true rfl) (Nat.le_of_ble_eq_true rfl) dX3_count_48
  by_cases h2 : wh = nI 1
  · skip
    subst h2
    refine lv_tableIn (off := 48) (tgt := 49) hx hb dX3_count_1 (by decide) (by decide) (by decide) (by decide) ?_
    refine lv_aload_n hx hb dX3_count_49 rfl (lv_at hl 0 rfl) ?_
    refine gf hx hb hown hts hw hT 0 0 (by decide) (ci := 3) rfl rfl (fun _ h => List.mem_cons_of_mem _ (List.mem_append_left _ (List.mem_append_left _ (List.mem_append_left _ (List.mem_append_right _ h))))) 3 (by decide) (List.mem_of_getElem? (i := 4) rfl) (v := .ref (g_ad G 5 ((ipS S).1))) rfl dX3_count_50 ?_
    refine gf hx hb hown hts hw hT 5 ((ipS S).1) (show (ipS S).1 < 4 by omega) (ci := 2) rfl rfl (fun _ h => List.mem_cons_of_mem _ (List.mem_append_left _ (List.mem_append_left _ (List.mem_append_right _ h)))) 1 (by decide) (List.mem_of_getElem? (i := 5) rfl) (v := .int (psS S ((ipS S).1))) rfl dX3_count_53 ?_
    exact rix hx hb hlk hr hw hS (by decide) (by unfold coF; rw [if_neg (show ¬ nI 1 = nI 0 by decide), if_pos (show nI 1 = nI 1 from rfl)]) (vp_nar_int _) (Nat.le_of_ble_eq_true rfl) (Nat.le_of_ble_eq_true rfl) dX3_count_56
  by_cases h3 : wh = nI 2
  · skip
    subst h3
    refine lv_tableIn (off := 56) (tgt := 57) hx hb dX3_count_1 (by decide) (by decide) (by decide) (by decide) ?_
    refine lv_aload_n hx hb dX3_count_57 rfl (lv_at hl 0 rfl) ?_
    refine gf hx hb hown hts hw hT 0 0 (by decide) (ci := 3) rfl rfl (fun _ h => List.mem_cons_of_mem _ (List.mem_append_left _ (List.mem_append_left _ (List.mem_append_left _ (List.mem_append_right _ h))))) 5 (by decide) (List.mem_of_getElem? (i := 6) rfl) (v := .ref (g_ad G 5 2)) rfl dX3_count_58 ?_
    refine gf hx hb hown hts hw hT 5 2 (by decide) (ci := 2) rfl rfl (fun _ h => List.mem_cons_of_mem _ (List.mem_append_left _ (List.mem_append_left _ (List.mem_append_right _ h)))) 1 (by decide) (List.mem_of_getElem? (i := 5) rfl) (v := .int (psS S 2)) rfl dX3_count_61 ?_
    exact rix hx hb hlk hr hw hS (by decide) (by unfold coF; rw [if_neg (show ¬ nI 2 = nI 0 by decide), if_neg (show ¬ nI 2 = nI 1 by decide), if_pos (show nI 2 = nI 2 from rfl)]) (vp_nar_int _) (Nat.le_of_ble_eq_true rfl) (Nat.le_of_ble_eq_true rfl) dX3_count_64
  by_cases h4 : wh = nI 3
  · skip
    subst h4
    refine lv_tableIn (off := 64) (tgt := 65) hx hb dX3_count_1 (by decide) (by decide) (by decide) (by decide) ?_
    refine lv_aload_n hx hb dX3_count_65 rfl (lv_at hl 0 rfl) ?_
    refine gf hx hb hown hts hw hT 0 0 (by decide) (ci := 3) rfl rfl (fun _ h => List.mem_cons_of_mem _ (List.mem_append_left _ (List.mem_append_left _ (List.mem_append_left _ (List.mem_append_right _ h))))) 6 (by decide) (List.mem_of_getElem? (i := 7) rfl) (v := .ref (g_ad G 5 3)) rfl dX3_count_66 ?_
    refine gf hx hb hown hts hw hT 5 3 (by decide) (ci := 2) rfl rfl (fun _ h => List.mem_cons_of_mem _ (List.mem_append_left _ (List.mem_append_left _ (List.mem_append_right _ h)))) 1 (by decide) (List.mem_of_getElem? (i := 5) rfl) (v := .int (psS S 3)) rfl dX3_count_69 ?_
    exact rix hx hb hlk hr hw hS (by decide) (by unfold coF; rw [if_neg (show ¬ nI 3 = nI 0 by decide), if_neg (show ¬ nI 3 = nI 1 by decide), if_neg (show ¬ nI 3 = nI 2 by decide), if_pos (show nI 3 = nI 3 from rfl)]) (vp_nar_int _) (Nat.le_of_ble_eq_true rfl) (Nat.le_of_ble_eq_true rfl) dX3_count_72
  by_cases h5 : wh = nI 4
  · skip
    subst h5
    refine lv_tableIn (off := 72) (tgt := 73) hx hb dX3_count_1 (by decide) (by decide) (by decide) (by decide) ?_
    refine lv_aload_n hx hb dX3_count_73 rfl (lv_at hl 0 rfl) ?_
    refine gf hx hb hown hts hw hT 0 0 (by decide) (ci := 3) rfl rfl (fun _ h => List.mem_cons_of_mem _ (List.mem_append_left _ (List.mem_append_left _ (List.mem_append_left _ (List.mem_append_right _ h))))) 7 (by decide) (List.mem_of_getElem? (i := 8) rfl) (v := .int (nfS S 1)) rfl dX3_count_74 ?_
    exact rix hx hb hlk hr hw hS (by decide) (by unfold coF; rw [if_neg (show ¬ nI 4 = nI 0 by decide), if_neg (show ¬ nI 4 = nI 1 by decide), if_neg (show ¬ nI 4 = nI 2 by decide), if_neg (show ¬ nI 4 = nI 3 by decide), if_pos (show nI 4 = nI 4 from rfl)]) (vp_nar_int _) (Nat.le_of_ble_eq_true rfl) (Nat.le_of_ble_eq_true rfl) dX3_count_77
  by_cases h6 : wh = nI 5
  · skip
    subst h6
    refine lv_tableIn (off := 77) (tgt := 78) hx hb dX3_count_1 (by decide) (by decide) (by decide) (by decide) ?_
    refine lv_aload_n hx hb dX3_count_78 rfl (lv_at hl 0 rfl) ?_
    refine cVi ⟨hx, hb, hml, hown, hts⟩ (c_touchedBodies l G S) (cwV 0 hts gX3_count_X3_touchedBodies rfl rfl rfl (by decide +kernel) ⟨(Nat.le_of_ble_eq_true rfl), (Nat.le_of_ble_eq_true rfl)⟩) hw hT hS (rcv hw hT 0 0 (by decide) rfl rfl) (As := []) (rest := []) rfl hl.1 rfl (Nat.le_of_ble_eq_true rfl) dX3_count_79 ⟨(Nat.le_of_ble_eq_true rfl), (Nat.le_of_ble_eq_true rfl)⟩ (fun H locs hw hS => ?_)
    exact rix hx hb hlk hr hw hS (by decide) (by unfold coF; rw [if_neg (show ¬ nI 5 = nI 0 by decide), if_neg (show ¬ nI 5 = nI 1 by decide), if_neg (show ¬ nI 5 = nI 2 by decide), if_neg (show ¬ nI 5 = nI 3 by decide), if_neg (show ¬ nI 5 = nI 4 by decide), if_pos (show nI 5 = nI 5 from rfl)]) (vp_nar_int _) (Nat.le_of_ble_eq_true rfl) (Nat.le_of_ble_eq_true rfl) dX3_count_82
  by_cases h7 : wh = nI 6
  · skip
    subst h7
    refine lv_tableIn (off := 82) (tgt := 83) hx hb dX3_count_1 (by decide) (by decide) (by decide) (by decide) ?_
    refine lv_aload_n hx hb dX3_count_83 rfl (lv_at hl 0 rfl) ?_
    refine gf hx hb hown hts hw hT 0 0 (by decide) (ci := 3) rfl rfl (fun _ h => List.mem_cons_of_mem _ (List.mem_append_left _ (List.mem_append_left _ (List.mem_append_left _ (List.mem_append_right _ h))))) 10 (by decide) (List.mem_of_getElem? (i := 9) rfl) (v := .int (nfS S 2)) rfl dX3_count_84 ?_
    exact rix hx hb hlk hr hw hS (by decide) (by unfold coF; rw [if_neg (show ¬ nI 6 = nI 0 by decide), if_neg (show ¬ nI 6 = nI 1 by decide), if_neg (show ¬ nI 6 = nI 2 by decide), if_neg (show ¬ nI 6 = nI 3 by decide), if_neg (show ¬ nI 6 = nI 4 by decide), if_neg (show ¬ nI 6 = nI 5 by decide)]) (vp_nar_int _) (Nat.le_of_ble_eq_true rfl) (Nat.le_of_ble_eq_true rfl) dX3_count_87
  have h8 := sw_out (n := 7) (x := wh) (by decide) (fun j hj => by rcases sw_7 hj with rfl | rfl | rfl | rfl | rfl | rfl | rfl <;> assumption)
  refine lv_tableOut (tgt := 88) hx hb dX3_count_1 h8 (by decide) ?_
  exact thrI hx hb hl0 hown hts hlk hml hl.1 hw hT hS hte (wh_out (by decide) h8) (List.mem_of_getElem? (i := 1) rfl) (List.mem_of_getElem? (i := 2) rfl) (fun _ h => List.mem_cons_of_mem _ (List.mem_append_right _ h)) (List.mem_of_getElem? (i := 5) rfl) hS.1 dX3_count_88 dX3_count_91 dX3_count_92 dX3_count_94 dX3_count_97 (Nat.le_of_ble_eq_true rfl) (Nat.le_of_ble_eq_true rfl) (Nat.le_of_ble_eq_true rfl) (Nat.le_of_ble_eq_true rfl) (Nat.le_of_ble_eq_true rfl) (Nat.le_of_ble_eq_true rfl) hz1 hz2
end
section
/-! PairFinder: its public methods, the others -/
theorem n_nat {n : Int32} (h1 : ¬ n < nI 1) (h2 : ¬ nI 512 < n) : ∃ N, 1 ≤ N ∧ N ≤ 512 ∧ n = nI N := by
  have h0 : ¬ n < 0 := fun q => h1 (Int32.lt_trans q (by decide))
  obtain ⟨j, hj, rfl⟩ := nI_of h0
  refine ⟨j, ?_, ?_, rfl⟩
  · rcases Nat.lt_or_ge j 1 with q | q
    · exact absurd (nI_lt q (by decide)) h1
    · exact q
  · rcases Nat.lt_or_ge 512 j with q | q
    · exact absurd (nI_lt q hj) h2
    · exact q
theorem mv_cong {f g : Nat → UInt32} {dx dy dz : UInt32} (h : ∀ k, k < 6 → f k = g k) : ∀ k, k < 6 → mvF f dx dy dz k = mvF g dx dy dz k := by
  intro k hk
  have h0 := h 0 (by decide); have h1 := h 1 (by decide); have h2 := h 2 (by decide); have h3 := h 3 (by decide); have h4 := h 4 (by decide); have h5 := h 5 (by decide)
  match k, hk with
  | 0, _ => show FP.fadd (f 0) dx = FP.fadd (g 0) dx; rw [h0]
  | 1, _ => show FP.fadd (f 1) dy = FP.fadd (g 1) dy; rw [h1]
  | 2, _ => show FP.fadd (f 2) dz = FP.fadd (g 2) dz; rw [h2]
  | 3, _ => show FP.fadd (f 3) dx = FP.fadd (g 3) dx; rw [h3]
  | 4, _ => show FP.fadd (f 4) dy = FP.fadd (g 4) dy; rw [h4]
  | 5, _ => show FP.fadd (f 5) dz = FP.fadd (g 5) dz; rw [h5]
  | n + 6, q => omega
theorem rw_cong {f g : Nat → UInt32} {dx dy dz : UInt32} (h : ∀ k, k < 6 → f k = g k) : ∀ t k, k < 6 → rwF dx dy dz t f k = rwF dx dy dz t g k
  | 0 => h
  | t + 1 => mv_cong (rw_cong h t)
theorem rw_in {f : Nat → UInt32} {dx dy dz : UInt32} : ∀ t, rwF dx dy dz t (mvF f dx dy dz) = rwF dx dy dz (t + 1) f
  | 0 => rfl
  | t + 1 => by show mvF _ _ _ _ = mvF _ _ _ _; rw [rw_in t]
theorem rg_row {dx dy dz : UInt32} : ∀ (n : Nat) (S : St), Gb (bxS S 1) → rgB dx dy dz n S = true → ∀ t, t ≤ n → Gb (rwF dx dy dz t (bxS S 1))
  | 0, S, hG, _, t, ht => by rw [show t = 0 by omega]; exact hG
  | n + 1, S, hG, h, t, ht => by
    unfold rgB at h
    split at h
    · next q =>
      match t, ht with
      | 0, _ => exact hG
      | t + 1, ht =>
        have := rg_row n (mvS S 1 dx dy dz) (gd_at q) h t (by omega)
        rw [mv_b1, rw_in] at this
        exact this
    · cases h
theorem rg_0 {dx dy dz : UInt32} : ∀ (n : Nat) (S : St) {j : Nat}, j ≠ 1 → bxS (rgS dx dy dz n S) j = bxS S j
  | 0, S, j, _ => rfl
  | n + 1, S, j, h => by
    unfold rgS
    split
    · rw [rg_0 n _ h]; unfold mvS; exact bx_ne _ _ h
    · unfold mvS; exact bx_ne _ _ h
theorem cp_lt {f g : Nat → UInt32} {k : Nat} (h : k < 6) : va_cpy f g 0 0 6 k = f k := by rw [pk_cpy_in (by omega) (by omega)]; simp
theorem row_ok {S : St} {dx dy dz : UInt32} {N : Nat} (hp : Gb (bxS S 0)) (h : rgB dx dy dz (N - 1) (cpF6 S 1 0) = true) : ∀ t, t < N → Gb (rwF dx dy dz t (bxS (cpF6 (rgS dx dy dz (N - 1) (cpF6 S 1 0)) 1 0) 1)) := by
  intro t ht k hk
  have h1 := rg_row (N - 1) (cpF6 S 1 0) (by unfold cpF6; rw [bx_s]; exact cp_gb hp) h t (by omega) k hk
  rw [rw_cong (g := bxS (cpF6 S 1 0) 1) _ t k hk]
  · exact h1
  · intro q hq
    unfold cpF6
    rw [bx_s, bx_s, cp_lt hq, cp_lt hq, rg_0 _ _ (by decide), bx_ne _ _ (by decide)]
def arE (S : St) (n : Int32) (dx dy dz : UInt32) : Option String := if n < nI 1 then some xA else if nI 512 < n then some xA else orX (padX S) (movX dx dy dz)
def arM (S : St) (n : Int32) (dx dy dz : UInt32) : St := rgS dx dy dz (kN n - 1) (cpF6 S 1 0)
def arX (S : St) (n : Int32) (dx dy dz : UInt32) : Option String := orX (arE S n dx dy dz) (if rgB dx dy dz (kN n - 1) (cpF6 S 1 0) = true then roomX (arM S n dx dy dz) n else some xA)
def arSX (S : St) (n : Int32) (dx dy dz : UInt32) : St := if arE S n dx dy dz = none then arM S n dx dy dz else S
theorem arE_n {S : St} {N : Nat} {dx dy dz : UInt32} (h1 : 1 ≤ N) (h5 : N ≤ 512) (hp : padX S = none) (hm : movX dx dy dz = none) : arE S (nI N) dx dy dz = none := by
  unfold arE
  rw [if_neg (nI_nlt h1 (by omega)), if_neg (nI_nlt h5 (by decide)), hp]
  exact hm
theorem arE_p {S : St} {N : Nat} {dx dy dz : UInt32} {E : String} (h1 : 1 ≤ N) (h5 : N ≤ 512) (hp : padX S = some E) : arE S (nI N) dx dy dz = some E := by
  unfold arE
  rw [if_neg (nI_nlt h1 (by omega)), if_neg (nI_nlt h5 (by decide)), hp]
  rfl
theorem arE_m {S : St} {N : Nat} {dx dy dz : UInt32} {E : String} (h1 : 1 ≤ N) (h5 : N ≤ 512) (hp : padX S = none) (hm : movX dx dy dz = some E) : arE S (nI N) dx dy dz = some E := by
  unfold arE
  rw [if_neg (nI_nlt h1 (by omega)), if_neg (nI_nlt h5 (by decide)), hp]
  exact hm
set_option maxRecDepth 100000 in
set_option maxHeartbeats 4000000 in
theorem c_addRow (l : Launch) (G : Gm) (S : St) (hl0 : l.stackTraces = false) (hp : Gb (bxS S 0)) (n : Int32) (dx dy dz : UInt32) (g9 m9 : Int32) : Ti l yX3_addRow wsX3_addRow ({ frames := 7, cells := 3, slots := 18, locals := 133 } : Room) [.ref (g_ad G 0 0), .int n, .float dx, .float dy, .float dz, .int g9, .int m9] G S (arX S n dx dy dz) (arSX S n dx dy dz) ((abD (kN n) dx dy dz g9 m9 (arM S n dx dy dz)).2.1) (abT (kN n) dx dy dz g9 m9 (arM S n dx dy dz)) := by
  refine entX (cc := cX3_addRow) (maxL := 7) (ret := (some .int)) (by decide) rfl (Nat.le_of_ble_eq_true rfl) ?_
  intro p e s m below meth c ls C hw hT hS hte hl
  obtain ⟨hx, hb, hr, hml, hown, hts, hlk⟩ := C
  have hz1 := hw.2.2.2.2.1
  have hz2 := hw.2.2.2.2.2
  have hl : lv_has ls 7 [(0, .ref (g_ad G 0 0)), (1, .int n), (2, .float dx), (3, .float dy), (4, .float dz), (5, .int g9), (6, .int m9)] := hl
  refine lv_iload_n hx hb dX3_addRow_0 rfl (lv_at hl 1 rfl) ?_
  refine lv_iconst (v := nI 1) hx hb dX3_addRow_1 (by decide) ?_
  refine lv_icmp_lt (tgt := 12) hx hb dX3_addRow_2 (by decide) (fun h1 => ?_) (fun h1 => ?_)
  · skip
    exact thrA hx hb hl0 hown hts hlk hml hl.1 (by unfold arSX; rw [if_neg (by unfold arE; simp [h1])]; exact hw) hT hS hte (or_s (by unfold arE; simp [h1])) (List.mem_of_getElem? (i := 1) rfl) (List.mem_of_getElem? (i := 2) rfl) (fun _ h => List.mem_cons_of_mem _ (List.mem_append_left _ (List.mem_append_right _ h))) (List.mem_of_getElem? (i := 12) rfl) hS.1 dX3_addRow_12 dX3_addRow_15 dX3_addRow_16 dX3_addRow_18 dX3_addRow_21 (Nat.le_of_ble_eq_true rfl) (Nat.le_of_ble_eq_true rfl) (Nat.le_of_ble_eq_true rfl) (Nat.le_of_ble_eq_true rfl) (Nat.le_of_ble_eq_true rfl) (Nat.le_of_ble_eq_true rfl) hz1 hz2
  · skip
    refine lv_iload_n hx hb dX3_addRow_5 rfl (lv_at hl 1 rfl) ?_
    refine lv_sipush (v := nI 512) hx hb dX3_addRow_6 (by decide) ?_
    refine lv_icmp_le (tgt := 22) hx hb dX3_addRow_9 (by decide) (fun h2 => ?_) (fun h2 => ?_)
    · skip
      have h2 : ¬ (nI 512) < n := Int32.not_lt.mpr h2
      obtain ⟨N, hN1, hN5, rfl⟩ := n_nat h1 h2
      have kN9 : kN (nI N) = N := kN_nI (by omega)
      refine lv_aload_n hx hb dX3_addRow_22 rfl (lv_at hl 0 rfl) ?_
      refine xVv ⟨hx, hb, hml, hown, hts⟩ (c_requirePadIsBox l G S hl0) (cwV 0 hts gX3_addRow_X3_requirePadIsBox rfl rfl rfl (by decide +kernel) ⟨(Nat.le_of_ble_eq_true rfl), (Nat.le_of_ble_eq_true rfl)⟩) hw hT hS (rcv hw hT 0 0 (by decide) rfl rfl) (As := []) (rest := []) rfl hl.1 rfl (Nat.le_of_ble_eq_true rfl) dX3_addRow_23 ⟨(Nat.le_of_ble_eq_true rfl), (Nat.le_of_ble_eq_true rfl)⟩ (fun E ce q9 H locs h3 hw hS hce hcv hcl => ?_) (fun H locs h3 hw hS => ?_)
      · skip
        exact xo hte hlk (or_s (arE_p hN1 hN5 h3)) (by unfold arSX; rw [if_neg (by rw [arE_p hN1 hN5 h3]; intro q; cases q)]; exact hw) hS hce hcv hcl (Nat.le_of_ble_eq_true rfl) (Nat.le_of_ble_eq_true rfl)
      refine lv_fload_n hx hb dX3_addRow_26 rfl (lv_at hl 2 rfl) ?_
      refine lv_fload_n hx hb dX3_addRow_27 rfl (lv_at hl 3 rfl) ?_
      refine lv_fload hx hb dX3_addRow_28 (lv_at hl 4 rfl) ?_
      refine xSv ⟨hx, hb, hml, hown, hts⟩ (c_requireMovement l G S hl0 dx dy dz) (va_cwS 3 hts gX3_addRow_X3_requireMovement rfl rfl rfl (by decide +kernel) ⟨(Nat.le_of_ble_eq_true rfl), (Nat.le_of_ble_eq_true rfl)⟩) hw hT hS (As := [.float dx, .float dy, .float dz]) (rest := []) rfl hl.1 rfl (Nat.le_of_ble_eq_true rfl) dX3_addRow_30 ⟨(Nat.le_of_ble_eq_true rfl), (Nat.le_of_ble_eq_true rfl)⟩ (fun E ce q9 H locs h4 hw hS hce hcv hcl => ?_) (fun H locs h4 hw hS => ?_)
      · skip
        exact xo hte hlk (or_s (arE_m hN1 hN5 h3 h4)) (by unfold arSX; rw [if_neg (by rw [arE_m hN1 hN5 h3 h4]; intro q; cases q)]; exact hw) hS hce hcv hcl (Nat.le_of_ble_eq_true rfl) (Nat.le_of_ble_eq_true rfl)
      refine lv_aload_n hx hb dX3_addRow_33 rfl (lv_at hl 0 rfl) ?_
      refine lv_iload_n hx hb dX3_addRow_34 rfl (lv_at hl 1 rfl) ?_
      refine lv_fload_n hx hb dX3_addRow_35 rfl (lv_at hl 2 rfl) ?_
      refine lv_fload_n hx hb dX3_addRow_36 rfl (lv_at hl 3 rfl) ?_
      refine lv_fload hx hb dX3_addRow_37 (lv_at hl 4 rfl) ?_
      refine cVi ⟨hx, hb, hml, hown, hts⟩ (c_rowStaysGood l G S N (by omega) (by omega) dx dy dz (mov_t h4) hp) (cwV 4 hts gX3_addRow_X3_rowStaysGood rfl rfl rfl (by decide +kernel) ⟨(Nat.le_of_ble_eq_true rfl), (Nat.le_of_ble_eq_true rfl)⟩) hw hT hS (rcv hw hT 0 0 (by decide) rfl rfl) (As := [.int (nI N), .float dx, .float dy, .float dz]) (rest := []) rfl hl.1 rfl (Nat.le_of_ble_eq_true rfl) dX3_addRow_39 ⟨(Nat.le_of_ble_eq_true rfl), (Nat.le_of_ble_eq_true rfl)⟩ (fun H locs hw hS => ?_)
      refine lv_if_ne (tgt := 55) hx hb dX3_addRow_42 (by decide) (fun h5 => ?_) (fun h5 => ?_)
      · skip
        have h5 := bI_n0.mp h5
        refine lv_aload_n hx hb dX3_addRow_55 rfl (lv_at hl 0 rfl) ?_
        refine lv_iload_n hx hb dX3_addRow_56 rfl (lv_at hl 1 rfl) ?_
        refine xVv ⟨hx, hb, hml, hown, hts⟩ (c_requireRoomFor l G (rgS dx dy dz (N - 1) (cpF6 S 1 0)) hl0 (nI N)) (cwV 1 hts gX3_addRow_X3_requireRoomFor rfl rfl rfl (by decide +kernel) ⟨(Nat.le_of_ble_eq_true rfl), (Nat.le_of_ble_eq_true rfl)⟩) hw hT hS (rcv hw hT 0 0 (by decide) rfl rfl) (As := [.int (nI N)]) (rest := []) rfl hl.1 rfl (Nat.le_of_ble_eq_true rfl) dX3_addRow_57 ⟨(Nat.le_of_ble_eq_true rfl), (Nat.le_of_ble_eq_true rfl)⟩ (fun E ce q9 H locs h6 hw hS hce hcv hcl => ?_) (fun H locs h6 hw hS => ?_)
        · skip
          exact xo hte hlk (or_n (arE_n hN1 hN5 h3 h4) (by unfold arM; rw [kN9, if_pos h5]; exact h6)) (by unfold arSX arM; rw [if_pos (arE_n hN1 hN5 h3 h4), kN9]; exact hw) hS hce hcv hcl (Nat.le_of_ble_eq_true rfl) (Nat.le_of_ble_eq_true rfl)
        refine lv_aload_n hx hb dX3_addRow_60 rfl (lv_at hl 0 rfl) ?_
        refine lv_iload_n hx hb dX3_addRow_61 rfl (lv_at hl 1 rfl) ?_
        refine lv_fload_n hx hb dX3_addRow_62 rfl (lv_at hl 2 rfl) ?_
        refine lv_fload_n hx hb dX3_addRow_63 rfl (lv_at hl 3 rfl) ?_
        refine lv_fload hx hb dX3_addRow_64 (lv_at hl 4 rfl) ?_
        refine lv_iload hx hb dX3_addRow_66 (lv_at hl 5 rfl) ?_
        refine lv_iload hx hb dX3_addRow_68 (lv_at hl 6 rfl) ?_
        refine cVi ⟨hx, hb, hml, hown, hts⟩ (c_addBodies l G (rgS dx dy dz (N - 1) (cpF6 S 1 0)) N (by omega) (by omega) dx dy dz g9 m9 (mov_t h4) (row_ok hp h5)) (cwV 6 hts gX3_addRow_X3_addBodies rfl rfl rfl (by decide +kernel) ⟨(Nat.le_of_ble_eq_true rfl), (Nat.le_of_ble_eq_true rfl)⟩) hw hT hS (rcv hw hT 0 0 (by decide) rfl rfl) (As := [.int (nI N), .float dx, .float dy, .float dz, .int g9, .int m9]) (rest := []) rfl hl.1 rfl (Nat.le_of_ble_eq_true rfl) dX3_addRow_70 ⟨(Nat.le_of_ble_eq_true rfl), (Nat.le_of_ble_eq_true rfl)⟩ (fun H locs hw hS => ?_)
        exact rix hx hb hlk hr (by unfold arM; rw [kN9]; exact hw) hS (or_n (arE_n hN1 hN5 h3 h4) (by unfold arM; rw [kN9, if_pos h5]; exact h6)) (by unfold arM; rw [kN9]) (vp_nar_int _) (Nat.le_of_ble_eq_true rfl) (Nat.le_of_ble_eq_true rfl) dX3_addRow_73
      · skip
        have h5 := bI_0.mp h5
        exact thrA hx hb hl0 hown hts hlk hml hl.1 (by unfold arSX arM; rw [if_pos (arE_n hN1 hN5 h3 h4), kN9]; exact hw) hT hS hte (or_n (arE_n hN1 hN5 h3 h4) (by rw [kN9, if_neg (by rw [h5]; decide)])) (List.mem_of_getElem? (i := 1) rfl) (List.mem_of_getElem? (i := 2) rfl) (fun _ h => List.mem_cons_of_mem _ (List.mem_append_left _ (List.mem_append_right _ h))) (List.mem_of_getElem? (i := 13) rfl) hS.1 dX3_addRow_45 dX3_addRow_48 dX3_addRow_49 dX3_addRow_51 dX3_addRow_54 (Nat.le_of_ble_eq_true rfl) (Nat.le_of_ble_eq_true rfl) (Nat.le_of_ble_eq_true rfl) (Nat.le_of_ble_eq_true rfl) (Nat.le_of_ble_eq_true rfl) (Nat.le_of_ble_eq_true rfl) hz1 hz2
    · skip
      have h2 : (nI 512) < n := Int32.not_le.mp h2
      exact thrA hx hb hl0 hown hts hlk hml hl.1 (by unfold arSX; rw [if_neg (by unfold arE; simp [h1, h2])]; exact hw) hT hS hte (or_s (by unfold arE; simp [h1, h2])) (List.mem_of_getElem? (i := 1) rfl) (List.mem_of_getElem? (i := 2) rfl) (fun _ h => List.mem_cons_of_mem _ (List.mem_append_left _ (List.mem_append_right _ h))) (List.mem_of_getElem? (i := 12) rfl) hS.1 dX3_addRow_12 dX3_addRow_15 dX3_addRow_16 dX3_addRow_18 dX3_addRow_21 (Nat.le_of_ble_eq_true rfl) (Nat.le_of_ble_eq_true rfl) (Nat.le_of_ble_eq_true rfl) (Nat.le_of_ble_eq_true rfl) (Nat.le_of_ble_eq_true rfl) (Nat.le_of_ble_eq_true rfl) hz1 hz2
def shR (dx dy dz : UInt32) : Nat → Nat → St → Int32 → St × Int32
  | 0, _, S, c => (S, c)
  | n + 1, i, S, c => if thS S i = true then shR dx dy dz n (i + 1) (sbS S i dx dy dz) (if sbB S i dx dy dz = true then c + 1 else c) else shR dx dy dz n (i + 1) S c
def shE (fr tt : Int32) (dx dy dz : UInt32) : Option String := if bnF fr = true then (if bnF tt = true then (if tt < fr then some xI else movX dx dy dz) else some xI) else some xI
def shD (S : St) (fr tt : Int32) (dx dy dz : UInt32) : St × Int32 := shR dx dy dz (kN tt + 1 - kN fr) (kN fr) S (nI 0)
theorem mt_bx {S : St} {k a j : Nat} {dx dy dz : UInt32} (h2 : j ≠ 2 * k + 2) (h3 : j ≠ 2 * k + 3) : bxS (mtS S k a dx dy dz) j = bxS S j := by
  unfold mtS
  split
  · unfold cpF6; exact bx_ne _ _ h2
  · show bxS (mtW S k a dx dy dz) j = _
    unfold mtW wdS cpF6
    rw [bx_ne _ _ h3, bx_ne _ _ h3, bx_ne _ _ h2]
theorem mt_tight {S : St} {k a : Nat} {dx dy dz : UInt32} : bxS (mtS S k a dx dy dz) (2 * k + 2) = va_cpy (bxS S a) (bxS S (2 * k + 2)) 0 0 6 := by
  unfold mtS
  split
  · unfold cpF6; exact bx_s _ _ _
  · show bxS (mtW S k a dx dy dz) _ = _
    unfold mtW wdS cpF6
    rw [bx_ne _ _ (by omega), bx_ne _ _ (by omega), bx_s]
theorem sb_gb {S : St} {i : Nat} {dx dy dz : UInt32} (hG : ∀ k, k < 512 → Gb (bxS S (2 * k + 2))) : ∀ k, k < 512 → Gb (bxS (sbS S i dx dy dz) (2 * k + 2)) := by
  intro k hk
  have e : bxS (sbV S i dx dy dz) (2 * k + 2) = bxS S (2 * k + 2) := by
    unfold sbV mvS cpF6
    rw [bx_ne _ _ (by omega), bx_ne _ _ (by omega)]
  unfold sbS
  split
  · next q =>
    by_cases h : k = i
    · subst h
      rw [mt_tight]
      exact cp_gb (gd_at q)
    · rw [mt_bx (by omega) (by omega), e]
      exact hG k hk
  · rw [e]; exact hG k hk
set_option maxRecDepth 100000 in
set_option maxHeartbeats 4000000 in
theorem c_shift (l : Launch) (G : Gm) (S : St) (hl0 : l.stackTraces = false) (hG0 : ∀ k, k < 512 → Gb (bxS S (2 * k + 2))) (fr tt : Int32) (dx dy dz : UInt32) : Ti l yX3_shift wsX3_shift ({ frames := 7, cells := 1, slots := 6, locals := 129 } : Room) [.ref (g_ad G 0 0), .int fr, .int tt, .float dx, .float dy, .float dz] G S (shE fr tt dx dy dz) S ((shD S fr tt dx dy dz).2) ((shD S fr tt dx dy dz).1) := by
  refine entX (cc := cX3_shift) (maxL := 8) (ret := (some .int)) (by decide) rfl (Nat.le_of_ble_eq_true rfl) ?_
  intro p e s m below meth c ls C hw hT hS hte hl
  obtain ⟨hx, hb, hr, hml, hown, hts, hlk⟩ := C
  have hz1 := hw.2.2.2.2.1
  have hz2 := hw.2.2.2.2.2
  have hl : lv_has ls 8 [(0, .ref (g_ad G 0 0)), (1, .int fr), (2, .int tt), (3, .float dx), (4, .float dy), (5, .float dz)] := hl
  refine lv_iload_n hx hb dX3_shift_0 rfl (lv_at hl 1 rfl) ?_
  refine cSi ⟨hx, hb, hml, hown, hts⟩ (c_isBodyNumber l G S fr) (va_cwS 1 hts gX3_shift_X3_isBodyNumber rfl rfl rfl (by decide +kernel) ⟨(Nat.le_of_ble_eq_true rfl), (Nat.le_of_ble_eq_true rfl)⟩) hw hT hS (As := [.int fr]) (rest := []) rfl hl.1 rfl (Nat.le_of_ble_eq_true rfl) dX3_shift_1 ⟨(Nat.le_of_ble_eq_true rfl), (Nat.le_of_ble_eq_true rfl)⟩ (fun H locs hw hS => ?_)
  refine lv_if_eq (tgt := 19) hx hb dX3_shift_4 (by decide) (fun h1 => ?_) (fun h1 => ?_)
  · skip
    have h1 := bI_0.mp h1
    exact thrI hx hb hl0 hown hts hlk hml hl.1 hw hT hS hte (by unfold shE; simp [h1]) (List.mem_of_getElem? (i := 1) rfl) (List.mem_of_getElem? (i := 2) rfl) (fun _ h => List.mem_cons_of_mem _ (List.mem_append_left _ (List.mem_append_right _ h))) (List.mem_of_getElem? (i := 14) rfl) hS.1 dX3_shift_19 dX3_shift_22 dX3_shift_23 dX3_shift_25 dX3_shift_28 (Nat.le_of_ble_eq_true rfl) (Nat.le_of_ble_eq_true rfl) (Nat.le_of_ble_eq_true rfl) (Nat.le_of_ble_eq_true rfl) (Nat.le_of_ble_eq_true rfl) (Nat.le_of_ble_eq_true rfl) hz1 hz2
  · skip
    have h1 := bI_n0.mp h1
    obtain ⟨fn, hfn, rfl⟩ := bn_nat h1
    refine lv_iload_n hx hb dX3_shift_7 rfl (lv_at hl 2 rfl) ?_
    refine cSi ⟨hx, hb, hml, hown, hts⟩ (c_isBodyNumber l G S tt) (va_cwS 1 hts gX3_shift_X3_isBodyNumber rfl rfl rfl (by decide +kernel) ⟨(Nat.le_of_ble_eq_true rfl), (Nat.le_of_ble_eq_true rfl)⟩) hw hT hS (As := [.int tt]) (rest := []) rfl hl.1 rfl (Nat.le_of_ble_eq_true rfl) dX3_shift_8 ⟨(Nat.le_of_ble_eq_true rfl), (Nat.le_of_ble_eq_true rfl)⟩ (fun H locs hw hS => ?_)
    refine lv_if_eq (tgt := 19) hx hb dX3_shift_11 (by decide) (fun h2 => ?_) (fun h2 => ?_)
    · skip
      have h2 := bI_0.mp h2
      exact thrI hx hb hl0 hown hts hlk hml hl.1 hw hT hS hte (by unfold shE; simp [h1, h2]) (List.mem_of_getElem? (i := 1) rfl) (List.mem_of_getElem? (i := 2) rfl) (fun _ h => List.mem_cons_of_mem _ (List.mem_append_left _ (List.mem_append_right _ h))) (List.mem_of_getElem? (i := 14) rfl) hS.1 dX3_shift_19 dX3_shift_22 dX3_shift_23 dX3_shift_25 dX3_shift_28 (Nat.le_of_ble_eq_true rfl) (Nat.le_of_ble_eq_true rfl) (Nat.le_of_ble_eq_true rfl) (Nat.le_of_ble_eq_true rfl) (Nat.le_of_ble_eq_true rfl) (Nat.le_of_ble_eq_true rfl) hz1 hz2
    · skip
      have h2 := bI_n0.mp h2
      obtain ⟨tn, htn, rfl⟩ := bn_nat h2
      refine lv_iload_n hx hb dX3_shift_14 rfl (lv_at hl 1 rfl) ?_
      refine lv_iload_n hx hb dX3_shift_15 rfl (lv_at hl 2 rfl) ?_
      refine lv_icmp_le (tgt := 29) hx hb dX3_shift_16 (by decide) (fun h3 => ?_) (fun h3 => ?_)
      · skip
        have h3 : fn ≤ tn := (nI_leI (by omega) (by omega)).mp h3
        refine lv_fload_n hx hb dX3_shift_29 rfl (lv_at hl 3 rfl) ?_
        refine lv_fload hx hb dX3_shift_30 (lv_at hl 4 rfl) ?_
        refine lv_fload hx hb dX3_shift_32 (lv_at hl 5 rfl) ?_
        refine xSv ⟨hx, hb, hml, hown, hts⟩ (c_requireMovement l G S hl0 dx dy dz) (va_cwS 3 hts gX3_shift_X3_requireMovement rfl rfl rfl (by decide +kernel) ⟨(Nat.le_of_ble_eq_true rfl), (Nat.le_of_ble_eq_true rfl)⟩) hw hT hS (As := [.float dx, .float dy, .float dz]) (rest := []) rfl hl.1 rfl (Nat.le_of_ble_eq_true rfl) dX3_shift_34 ⟨(Nat.le_of_ble_eq_true rfl), (Nat.le_of_ble_eq_true rfl)⟩ (fun E ce q9 H locs h4 hw hS hce hcv hcl => ?_) (fun H locs h4 hw hS => ?_)
        · skip
          exact xo hte hlk (by unfold shE; rw [if_pos h1, if_pos h2, if_neg (nI_nlt h3 (by omega))]; exact h4) hw hS hce hcv hcl (Nat.le_of_ble_eq_true rfl) (Nat.le_of_ble_eq_true rfl)
        refine lv_iconst (v := nI 0) hx hb dX3_shift_37 (by decide) ?_
        refine lv_istore (lv' := [(6, .int (nI 0)), (0, .ref (g_ad G 0 0)), (1, .int (nI fn)), (2, .int (nI tn)), (3, .float dx), (4, .float dy), (5, .float dz)]) hx hb dX3_shift_38 hl (by decide) rfl (fun ls hl => ?_)
        refine lv_iload_n hx hb dX3_shift_40 rfl (lv_at hl 2 rfl) ?_
        refine lv_istore (lv' := [(7, .int (nI fn)), (6, .int (nI 0)), (0, .ref (g_ad G 0 0)), (1, .int (nI fn)), (2, .int (nI tn)), (3, .float dx), (4, .float dy), (5, .float dz)]) hx hb dX3_shift_41 hl (by decide) rfl (fun ls hl => ?_)
        have hmv := mov_t h4
        have LOOP : ∀ (n i : Nat) (S2 : St) (cq : Int32) (H : Heap) (locs : List Loc) (ls : Array Slot), i + n = tn + 1 → (shR dx dy dz n i S2 cq = shR dx dy dz (tn + 1 - fn) fn S (nI 0)) → (∀ k, k < 512 → Gb (bxS S2 (2 * k + 2))) → wdM G S2 H s → va_S (g_A G) s.heap H locs → lv_has ls 8 [(7, .int (nI i)), (6, .int cq), (0, .ref (g_ad G 0 0)), (2, .int (nI tn)), (3, .float dx), (4, .float dy), (5, .float dz), (1, .int (nI fn))] → W p l e ({ frames := 7, cells := 1, slots := 6, locals := 129 } : Room) s m ([.ref (g_ad G 0 0), .int (nI fn), .int (nI tn), .float dx, .float dy, .float dz] : List Value).toArray below meth c H locs 1 6 (vx_MQ below (Ki G (shE (nI fn) (nI tn) dx dy dz) ((shD S (nI fn) (nI tn) dx dy dz).2) ((shD S (nI fn) (nI tn) dx dy dz).1)) (Kx G (shE (nI fn) (nI tn) dx dy dz) S) ([.ref (g_ad G 0 0), .int (nI fn), .int (nI tn), .float dx, .float dy, .float dz] : List Value).toArray s ({ frames := 7, cells := 1, slots := 6, locals := 129 } : Room).cells ({ frames := 7, cells := 1, slots := 6, locals := 129 } : Room).slots (g_A G)) (F0 m 43 ls []) := by
          intro n
          induction n with
          | zero =>
            intro i S2 cq H locs ls hn hq hG hw hS hl
            obtain rfl : i = tn + 1 := by omega
            refine lv_iload hx hb dX3_shift_43 (lv_at hl 0 rfl) ?_
            refine lv_iload_n hx hb dX3_shift_45 rfl (lv_at hl 3 rfl) ?_
            refine lv_icmp_gt (tgt := 90) hx hb dX3_shift_46 (by decide) (fun _ => ?_) (fun q => absurd (nI_lt (show tn < tn + 1 by omega) (by omega)) q)
            refine lv_iload hx hb dX3_shift_90 (lv_at hl 1 rfl) ?_
            exact rix hx hb hlk hr (by unfold shD; rw [kN_nI (show fn < 65536 by omega), kN_nI (show tn < 65536 by omega), ← hq]; exact hw) hS (by unfold shE; rw [if_pos h1, if_pos h2, if_neg (nI_nlt h3 (by omega))]; exact h4) (by unfold shD; rw [kN_nI (show fn < 65536 by omega), kN_nI (show tn < 65536 by omega), ← hq]; rfl) (vp_nar_int _) (Nat.le_of_ble_eq_true rfl) (Nat.le_of_ble_eq_true rfl) dX3_shift_92
          | succ n ih =>
            intro i S2 cq H locs ls hn hq hG hw hS hl
            have hi : i < tn + 1 := by omega
            refine lv_iload hx hb dX3_shift_43 (lv_at hl 0 rfl) ?_
            refine lv_iload_n hx hb dX3_shift_45 rfl (lv_at hl 3 rfl) ?_
            refine lv_icmp_gt (tgt := 90) hx hb dX3_shift_46 (by decide) (fun q => absurd q (nI_nlt (show i ≤ tn by omega) (by omega))) (fun _ => ?_)
            refine lv_aload_n hx hb dX3_shift_49 rfl (lv_at hl 2 rfl) ?_
            refine gf hx hb hown hts hw hT 0 0 (by decide) (ci := 3) rfl rfl (fun _ h => List.mem_cons_of_mem _ (List.mem_append_left _ (List.mem_append_left _ (List.mem_append_left _ (List.mem_append_left _ (List.mem_append_right _ h)))))) 1 (by decide) (List.mem_of_getElem? (i := 3) rfl) (v := .ref (g_ad G 3 0)) rfl dX3_shift_50 ?_
            refine lv_iload hx hb dX3_shift_53 (lv_at hl 0 rfl) ?_
            refine abl hx hb hw hT i (show i < 512 by omega) dX3_shift_55 ?_
            refine gf hx hb hown hts hw hT 4 i (show i < 512 by omega) (ci := 0) rfl rfl (fun _ h => List.mem_cons_of_mem _ (List.mem_append_left _ (List.mem_append_left _ (List.mem_append_left _ (List.mem_append_right _ h))))) 4 (by decide) (List.mem_of_getElem? (i := 4) rfl) (v := .int (bI (thS S2 i))) rfl dX3_shift_56 ?_
            refine lv_if_eq (tgt := 84) hx hb dX3_shift_59 (by decide) (fun h7 => ?_) (fun h7 => ?_)
            · skip
              have h7 := bI_0.mp h7
              refine lv_iinc (v := nI (i + 1)) (lv' := [(7, .int (nI (i + 1))), (6, .int cq), (0, .ref (g_ad G 0 0)), (2, .int (nI tn)), (3, .float dx), (4, .float dy), (5, .float dz), (1, .int (nI fn))]) hx hb dX3_shift_84 hl (k := 0) rfl (nI_add i 1) (by decide) rfl (fun ls hl => ?_)
              refine lv_goto (tgt := 43) hx hb dX3_shift_87 (by decide) ?_
              exact ih (i + 1) S2 cq H locs ls (by omega) (by rw [← hq, shR, if_neg (by rw [h7]; decide)]) hG hw hS (lv_sub hl [0, 1, 2, 3, 4, 5, 6, 7] rfl)
            · skip
              have h7 := bI_n0.mp h7
              refine lv_aload_n hx hb dX3_shift_62 rfl (lv_at hl 2 rfl) ?_
              refine lv_aload_n hx hb dX3_shift_63 rfl (lv_at hl 2 rfl) ?_
              refine gf hx hb hown hts hw hT 0 0 (by decide) (ci := 3) rfl rfl (fun _ h => List.mem_cons_of_mem _ (List.mem_append_left _ (List.mem_append_left _ (List.mem_append_left _ (List.mem_append_left _ (List.mem_append_right _ h)))))) 1 (by decide) (List.mem_of_getElem? (i := 3) rfl) (v := .ref (g_ad G 3 0)) rfl dX3_shift_64 ?_
              refine lv_iload hx hb dX3_shift_67 (lv_at hl 0 rfl) ?_
              refine abl hx hb hw hT i (show i < 512 by omega) dX3_shift_69 ?_
              refine lv_fload_n hx hb dX3_shift_70 rfl (lv_at hl 4 rfl) ?_
              refine lv_fload hx hb dX3_shift_71 (lv_at hl 5 rfl) ?_
              refine lv_fload hx hb dX3_shift_73 (lv_at hl 6 rfl) ?_
              refine cVi ⟨hx, hb, hml, hown, hts⟩ (c_shiftBody l G S2 i (show i < 512 by omega) dx dy dz hmv (hG i (by omega))) (cwV 4 hts gX3_shift_X3_shiftBody rfl rfl rfl (by decide +kernel) ⟨(Nat.le_of_ble_eq_true rfl), (Nat.le_of_ble_eq_true rfl)⟩) hw hT hS (rcv hw hT 0 0 (by decide) rfl rfl) (As := [.ref (g_ad G 4 i), .float dx, .float dy, .float dz]) (rest := []) rfl hl.1 rfl (Nat.le_of_ble_eq_true rfl) dX3_shift_75 ⟨(Nat.le_of_ble_eq_true rfl), (Nat.le_of_ble_eq_true rfl)⟩ (fun H locs hw hS => ?_)
              refine lv_if_eq (tgt := 84) hx hb dX3_shift_78 (by decide) (fun h8 => ?_) (fun h8 => ?_)
              · skip
                have h8 := bI_0.mp h8
                refine lv_iinc (v := nI (i + 1)) (lv' := [(7, .int (nI (i + 1))), (6, .int cq), (0, .ref (g_ad G 0 0)), (2, .int (nI tn)), (3, .float dx), (4, .float dy), (5, .float dz), (1, .int (nI fn))]) hx hb dX3_shift_84 hl (k := 0) rfl (nI_add i 1) (by decide) rfl (fun ls hl => ?_)
                refine lv_goto (tgt := 43) hx hb dX3_shift_87 (by decide) ?_
                exact ih (i + 1) ((sbS S2 i dx dy dz)) cq H locs ls (by omega) (by rw [← hq, shR, if_pos h7, if_neg (by rw [h8]; decide)]) (sb_gb hG) hw hS (lv_sub hl [0, 1, 2, 3, 4, 5, 6, 7] rfl)
              · skip
                have h8 := bI_n0.mp h8
                refine lv_iinc (v := cq + 1) (lv' := [(6, .int (cq + 1)), (7, .int (nI i)), (0, .ref (g_ad G 0 0)), (2, .int (nI tn)), (3, .float dx), (4, .float dy), (5, .float dz), (1, .int (nI fn))]) hx hb dX3_shift_81 hl (k := 1) rfl rfl (by decide) rfl (fun ls hl => ?_)
                refine lv_iinc (v := nI (i + 1)) (lv' := [(7, .int (nI (i + 1))), (6, .int (cq + 1)), (0, .ref (g_ad G 0 0)), (2, .int (nI tn)), (3, .float dx), (4, .float dy), (5, .float dz), (1, .int (nI fn))]) hx hb dX3_shift_84 hl (k := 1) rfl (nI_add i 1) (by decide) rfl (fun ls hl => ?_)
                refine lv_goto (tgt := 43) hx hb dX3_shift_87 (by decide) ?_
                exact ih (i + 1) ((sbS S2 i dx dy dz)) (cq + 1) H locs ls (by omega) (by rw [← hq, shR, if_pos h7, if_pos h8]) (sb_gb hG) hw hS (lv_sub hl [0, 1, 2, 3, 4, 5, 6, 7] rfl)
        exact LOOP (tn + 1 - fn) fn S (nI 0) _ _ ls (by omega) rfl hG0 hw hS (lv_sub hl [0, 1, 2, 4, 5, 6, 7, 3] rfl)
      · skip
        have h3 : ¬ fn ≤ tn := fun z => h3 ((nI_leI (by omega) (by omega)).mpr z)
        exact thrI hx hb hl0 hown hts hlk hml hl.1 hw hT hS hte (by unfold shE; rw [if_pos h1, if_pos h2, if_pos (nI_lt (by omega) (by omega))]) (List.mem_of_getElem? (i := 1) rfl) (List.mem_of_getElem? (i := 2) rfl) (fun _ h => List.mem_cons_of_mem _ (List.mem_append_left _ (List.mem_append_right _ h))) (List.mem_of_getElem? (i := 14) rfl) hS.1 dX3_shift_19 dX3_shift_22 dX3_shift_23 dX3_shift_25 dX3_shift_28 (Nat.le_of_ble_eq_true rfl) (Nat.le_of_ble_eq_true rfl) (Nat.le_of_ble_eq_true rfl) (Nat.le_of_ble_eq_true rfl) (Nat.le_of_ble_eq_true rfl) (Nat.le_of_ble_eq_true rfl) hz1 hz2
end
