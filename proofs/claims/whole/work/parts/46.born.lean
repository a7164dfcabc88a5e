/-! The world when all is made -/
def S0 : St := (fun _ _ => 0, fun _ => 0, fun _ => 0, fun _ => false, fun _ => false, fun _ => 0, fun _ _ => 0, fun _ => 0, fun _ => 0, fun _ => 0, (0, 1), fun _ _ => 0, fun _ _ => 0, fun _ _ => false, fun _ => 0, fun _ => 0, fun _ => 0)
def born (Y : Dw) : Prop := (∀ i j, dd Y i j = true ↔ j < cnt i) ∧ ∀ i j, j < cnt i → dc Y i j = memK (dG Y) S0 i j ∨ (i = 3 ∧ ∃ f : Nat → Option Nat, dc Y i j = .inl (g_cy (dG Y) 5, 512, .inr (.inr (.inr (.inr f)))) ∧ ∀ b, b < 512 → f b = some (g_ad (dG Y) 4 b))
theorem arrV_same {cA : ClassId} {n : Nat} {f g : Nat → Value} (h : ∀ b, b < n → f b = g b) : arrV cA n f = arrV cA n g := by
  unfold arrV
  congr 2
  funext j
  exact h j.val j.isLt
theorem born_at {Y : Dw} {H : Heap} {D : va_G} {i j a : Nat} (hb : born Y) (hj : j < cnt i) (h : va_at D vwCl (a, dc Y i j) H) : va_at D vwCl (a, memK (dG Y) S0 i j) H := by
  rcases hb.2 i j hj with e | ⟨rfl, f, e, hf⟩
  · rw [← e]; exact h
  · rw [e] at h
    have h1 : H[a]? = some (arrV (g_cy (dG Y) 5) 512 (fun b => va_rf (f b))) := h
    show H[a]? = some (arrV (g_cy (dG Y) 5) 512 (fun b => va_rf (some (g_ad (dG Y) 4 b))))
    rw [h1, arrV_same (fun b hb => congrArg va_rf (hf b hb))]
theorem born_wd {Y : Dw} {H : Heap} {s : State} (hw : dwM Y H s) (hb : born Y) : wdM (dG Y) S0 H s := by
  obtain ⟨hL, hA, hP, hD, z1, z2⟩ := hw
  have hL2 : lay (dG Y) := ⟨fun i j hj => hL.1 i j ((hb.1 i j).mpr hj), fun a ha => ⟨(hb.1 _ _).mp (hL.2 a ha).1, (hL.2 a ha).2⟩⟩
  have key : ∀ (k : Nat) (x : Nat × va_E), (va_pl (g_L (dG Y)) (mem (dG Y) S0))[k]? = some x → (va_pl (g_L (dG Y)) (dm Y))[k]? = some (x.1, dm Y x.1) ∧ x.2 = mem (dG Y) S0 x.1 ∧ x.1 ∈ g_L (dG Y) := fun k x hx => by
    obtain ⟨h1, h2⟩ := va_pl_at hx
    refine ⟨?_, h2, List.mem_of_getElem? h1⟩
    unfold va_pl
    rw [List.getElem?_map, h1]
    rfl
  refine ⟨hL2, hA, fun k x hx => ?_, ⟨fun i j p q hp hq e => ?_, fun k x hx => ?_⟩, z1, z2⟩
  · obtain ⟨h1, h2, h3⟩ := key k x hx
    have h4 := hP k _ h1
    have h5 := born_at hb (hL2.2 _ h3).1 (a := x.1) (D := (g_dC (dG Y), g_dI (dG Y))) (H := H) h4
    obtain ⟨x1, x2⟩ := x
    have h2 : x2 = mem (dG Y) S0 x1 := h2
    rw [h2]
    exact h5
  · exact hD.1 i j _ _ (key i p hp).1 (key j q hq).1 e
  · exact hD.2 k (x.1, dm Y x.1) (key k x hx).1
def pf0 : va_E := .inr (3, [.null, .null, .int 0, .null, .null, .null, .null, .int 0, .null, .null, .int 0, .null])
def mo0 : va_E := .inr (4, [.int 0, .null, .null, .null, .null, .null, .null, .null, .null, .null, .null, .null, .int 0, .int 0, .null, .null, .null])
def ou0 (X : Dw) : va_E := .inl (g_cy (dG X) 2, 1, .inr (.inl (fun _ => 0)))
def od0 (X : Dw) : va_E := .inl (g_cy (dG X) 4, 1, .inr (.inr (.inr (.inl (fun _ => 0)))))
theorem born_dd {X Y1 Y2 : Dw} {q0 q9 q13 q14 : Nat} (h0 : ∀ a b, dd X a b = false) (h1 : pfP (dN X q0 0 0 pf0) Y1) (h2 : moP (dN Y1 q9 9 0 mo0) Y2) : (∀ i j, dd (dN (dN Y2 q13 13 0 (ou0 Y2)) q14 14 0 (od0 Y2)) i j = true ↔ j < cnt i) ∧ dd Y1 9 0 = false ∧ (∀ a b, 10 ≤ a → a ≤ 12 → dd (dN Y1 q9 9 0 mo0) a b = false) ∧ dd Y2 13 0 = false ∧ dd (dN Y2 q13 13 0 (ou0 Y2)) 14 0 = false := by
  have k1 : ∀ a b, dd (dN X q0 0 0 pf0) a b = true ↔ one2 0 0 a b := fun a b => by
    rw [(Gr.new (h0 0 0)).2.2 a b, h0 a b]
    exact ⟨fun h => h.elim (fun z => by cases z) id, Or.inr⟩
  have k2 : ∀ a b, dd Y1 a b = true ↔ (one2 0 0 a b ∨ pfN9 a b) := fun a b => by rw [h1.1.2.2 a b, k1]
  have f9 : dd Y1 9 0 = false := ne_f (fun z => by have := (k2 9 0).mp z; simp only [one2, pfN9, pfA] at this; omega)
  have k3 : ∀ a b, dd (dN Y1 q9 9 0 mo0) a b = true ↔ ((one2 0 0 a b ∨ pfN9 a b) ∨ one2 9 0 a b) := fun a b => by rw [(Gr.new f9).2.2 a b, k2]
  have f10 : ∀ a b, 10 ≤ a → a ≤ 12 → dd (dN Y1 q9 9 0 mo0) a b = false := fun a b ha hb => ne_f (fun z => by have := (k3 a b).mp z; simp only [one2, pfN9, pfA] at this; omega)
  have k4 : ∀ a b, dd Y2 a b = true ↔ (((one2 0 0 a b ∨ pfN9 a b) ∨ one2 9 0 a b) ∨ moN a b) := fun a b => by rw [h2.1.2.2 a b, k3]
  have f13 : dd Y2 13 0 = false := ne_f (fun z => by have := (k4 13 0).mp z; simp only [one2, pfN9, pfA, moN, false_or] at this; omega)
  have k5 : ∀ a b, dd (dN Y2 q13 13 0 (ou0 Y2)) a b = true ↔ ((((one2 0 0 a b ∨ pfN9 a b) ∨ one2 9 0 a b) ∨ moN a b) ∨ one2 13 0 a b) := fun a b => by rw [(Gr.new f13).2.2 a b, k4]
  have f14 : dd (dN Y2 q13 13 0 (ou0 Y2)) 14 0 = false := ne_f (fun z => by have := (k5 14 0).mp z; simp only [one2, pfN9, pfA, moN, false_or] at this; omega)
  refine ⟨fun i j => ?_, f9, f10, f13, f14⟩
  rw [(Gr.new f14).2.2 i j, k5]
  simp only [one2, pfN9, pfA, moN, false_or]
  match i with
  | 0 => simp [cnt] <;> omega
  | 1 => simp [cnt] <;> omega
  | 2 => simp [cnt] <;> omega
  | 3 => simp [cnt] <;> omega
  | 4 => simp [cnt] <;> omega
  | 5 => simp [cnt] <;> omega
  | 6 => simp [cnt] <;> omega
  | 7 => simp [cnt] <;> omega
  | 8 => simp [cnt] <;> omega
  | 9 => simp [cnt] <;> omega
  | 10 => simp [cnt] <;> omega
  | 11 => simp [cnt] <;> omega
  | 12 => simp [cnt] <;> omega
  | 13 => simp [cnt] <;> omega
  | 14 => simp [cnt] <;> omega
  | n + 15 => simp [cnt] <;> omega
