/-! The law's body: what holds in it, and its cases' common words -/
def LC (p : Program) (l : Launch) (s : State) (m : MethodId) (c : Code) (b L : Nat) (xs : Nat → Int32) (G : Gm) : Prop :=
  p.tables.exec = Jvm.exec ∧ c.code = cL_law ∧ c.maxLocals = 8 ∧ s.vm.findClass RL = some m.cls ∧ (∀ w ∈ wsL_law, w.before #[Value.ref b] s = true) ∧ va_X b L xs s s.heap ∧ b < s.heap.size ∧ ¬ g_A G b ∧ wdT G s ∧ ncW s ∧ l.stackTraces = false ∧ L ≤ 448
abbrev LV (G : Gm) (b i : Nat) : List (Nat × Value) := [(0, .ref b), (1, .ref (g_ad G 0 0)), (2, .ref (g_ad G 9 0)), (3, .ref (g_ad G 13 0)), (4, .ref (g_ad G 14 0)), (5, .int (nI i))]
theorem law_cf : Cond.constantFloat RL 81 1040187392 ∈ wsL_law := List.mem_of_getElem? (i := 8) (by decide +kernel)
theorem bL_0 {b : Bool} (h : bI b = 0) : bL b = 0 := by rw [bI_0.mp h]; rfl
theorem bL_1 {b : Bool} (h : ¬ bI b = 0) : bL b = 1 := by rw [bI_n0.mp h]; rfl
theorem le_z {a b : Nat} (h : a ≤ b) : a + 0 ≤ b := h
