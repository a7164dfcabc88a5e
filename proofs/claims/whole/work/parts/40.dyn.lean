/-! The world while it is being made: kinds and numbers of cells made so far, and what they hold -/
def up2 {α : Type} (f : Nat → Nat → α) (i j : Nat) (x : α) : Nat → Nat → α := fun a b => if a = i ∧ b = j then x else f a b
theorem up2_self {α : Type} (f : Nat → Nat → α) (i j : Nat) (x : α) : up2 f i j x i j = x := by unfold up2; rw [if_pos ⟨rfl, rfl⟩]
theorem up2_ne {α : Type} (f : Nat → Nat → α) {i j a b : Nat} (x : α) (h : ¬ (a = i ∧ b = j)) : up2 f i j x a b = f a b := by unfold up2; rw [if_neg h]
abbrev Dw : Type := Gm × (Nat → Nat → Bool) × (Nat → Nat → va_E)
abbrev dG (X : Dw) : Gm := X.1
abbrev dd (X : Dw) : Nat → Nat → Bool := X.2.1
abbrev dc (X : Dw) : Nat → Nat → va_E := X.2.2
def gN (G : Gm) (q i j : Nat) : Gm := (up2 (g_ad G) i j q, va_up (g_K G) q (i, j), g_L G ++ [q], g_A G, g_cy G, g_dC G, g_dI G)
def dN (X : Dw) (q i j : Nat) (e : va_E) : Dw := (gN (dG X) q i j, up2 (dd X) i j true, up2 (dc X) i j e)
def dP (X : Dw) (i j : Nat) (e : va_E) : Dw := (dG X, dd X, up2 (dc X) i j e)
def dm (X : Dw) (a : Nat) : va_E := dc X (g_K (dG X) a).1 (g_K (dG X) a).2
def dlay (X : Dw) : Prop := (∀ i j, dd X i j = true → g_K (dG X) (g_ad (dG X) i j) = (i, j) ∧ g_ad (dG X) i j ∈ g_L (dG X)) ∧ ∀ a ∈ g_L (dG X), dd X (g_K (dG X) a).1 (g_K (dG X) a).2 = true ∧ g_ad (dG X) (g_K (dG X) a).1 (g_K (dG X) a).2 = a
def dwM (X : Dw) (H : Heap) (U : State) : Prop := dlay X ∧ (∀ q, H.size ≤ q → g_A (dG X) q) ∧ va_P (g_dC (dG X), g_dI (dG X)) vwCl (va_pl (g_L (dG X)) (dm X)) H ∧ va_D (g_A (dG X)) (va_pl (g_L (dG X)) (dm X)) ∧ vx_Zq Bundle.tN "UNASSIGNED_STACK" Bundle.steD (g_A (dG X)) U H ∧ vx_Zq Bundle.tN "SUPPRESSED_SENTINEL" Bundle.listD (g_A (dG X)) U H
theorem dwM.moved {X : Dw} {H : Heap} {u U : State} (hvm : u.vm.Alike U.vm) (h : dwM X H u) : dwM X H U := ⟨h.1, h.2.1, h.2.2.1, h.2.2.2.1, vx_Zq.moved hvm h.2.2.2.2.1, vx_Zq.moved hvm h.2.2.2.2.2⟩
theorem va_pl_at {L : List Nat} {f : Nat → va_E} {k : Nat} {x : Nat × va_E} (h : (va_pl L f)[k]? = some x) : L[k]? = some x.1 ∧ x.2 = f x.1 := by
  unfold va_pl at h
  rw [List.getElem?_map] at h
  cases hk : L[k]? with
  | none => rw [hk] at h; cases h
  | some a => rw [hk] at h; cases h; exact ⟨rfl, rfl⟩
theorem dm_new {X : Dw} {q i j : Nat} {e : va_E} (hL : dlay X) (hd : dd X i j = false) (hq : q ∉ g_L (dG X)) : va_pl (g_L (dG (dN X q i j e))) (dm (dN X q i j e)) = va_pl (g_L (dG X)) (dm X) ++ [(q, e)] := by
  show va_pl (g_L (dG X) ++ [q]) (dm (dN X q i j e)) = _
  unfold va_pl
  rw [List.map_append]
  congr 1
  · apply List.map_congr_left
    intro a ha
    congr 1
    unfold dm
    have haq : a ≠ q := fun z => hq (z ▸ ha)
    have hK : g_K (dG (dN X q i j e)) a = g_K (dG X) a := va_up_ne _ _ haq
    rw [hK]
    refine up2_ne _ _ (fun z => ?_)
    have := (hL.2 a ha).1
    rw [z.1, z.2, hd] at this
    cases this
  · show [(q, dm (dN X q i j e) q)] = [(q, e)]
    congr 2
    unfold dm
    have hK : g_K (dG (dN X q i j e)) q = (i, j) := va_up_self _ _ _
    rw [hK]
    exact up2_self _ _ _ _
theorem dlay_new {X : Dw} {q i j : Nat} {e : va_E} (hL : dlay X) (hd : dd X i j = false) (hq : q ∉ g_L (dG X)) : dlay (dN X q i j e) := by
  refine ⟨fun a b h => ?_, fun a ha => ?_⟩
  · by_cases z : a = i ∧ b = j
    · obtain ⟨rfl, rfl⟩ := z
      have e1 : g_ad (dG (dN X q a b e)) a b = q := up2_self _ _ _ _
      rw [e1]
      exact ⟨va_up_self _ _ _, List.mem_append_right _ (List.mem_singleton.mpr rfl)⟩
    · have e1 : g_ad (dG (dN X q i j e)) a b = g_ad (dG X) a b := up2_ne _ _ z
      have h1 : dd X a b = true := by
        have := h
        rwa [show dd (dN X q i j e) a b = dd X a b from up2_ne _ _ z] at this
      obtain ⟨g1, g2⟩ := hL.1 a b h1
      rw [e1]
      refine ⟨?_, List.mem_append_left _ g2⟩
      rw [show g_K (dG (dN X q i j e)) (g_ad (dG X) a b) = g_K (dG X) (g_ad (dG X) a b) from va_up_ne _ _ (fun z => hq (z ▸ g2))]
      exact g1
  · have ha : a ∈ g_L (dG X) ++ [q] := ha
    rcases List.mem_append.mp ha with h1 | h1
    · have haq : a ≠ q := fun z => hq (z ▸ h1)
      have hK : g_K (dG (dN X q i j e)) a = g_K (dG X) a := va_up_ne _ _ haq
      rw [hK]
      obtain ⟨g1, g2⟩ := hL.2 a h1
      have z : ¬ ((g_K (dG X) a).1 = i ∧ (g_K (dG X) a).2 = j) := fun z => by
        rw [z.1, z.2, hd] at g1
        cases g1
      exact ⟨(up2_ne _ _ z).trans g1, (up2_ne _ _ z).trans g2⟩
    · have haq : a = q := List.mem_singleton.mp h1
      subst haq
      have hK : g_K (dG (dN X a i j e)) a = (i, j) := va_up_self _ _ _
      rw [hK]
      exact ⟨up2_self _ _ _ _, up2_self _ _ _ _⟩
theorem dwM_new {X : Dw} {q i j : Nat} {e : va_E} {H H1 : Heap} {s : State} {locs1 : List Loc} (hw : dwM X H s) (hd : dd X i j = false) (hz : va_S (g_A (dG X)) H H1 locs1) (hP1 : va_P (g_dC (dG X), g_dI (dG X)) vwCl (va_pl (g_L (dG X)) (dm X) ++ [(q, e)]) H1) (hD1 : va_D (g_A (dG X)) (va_pl (g_L (dG X)) (dm X) ++ [(q, e)])) : dwM (dN X q i j e) H1 s := by
  obtain ⟨hL, hA, hP, hD, z1, z2⟩ := hw
  have hq : q ∉ g_L (dG X) := fun h => by
    obtain ⟨k, hk⟩ := va_pl_get (X := []) (f := dm X) h
    have hk' : (va_pl (g_L (dG X)) (dm X))[k]? = some (q, dm X q) := hk
    have hl := (List.getElem?_eq_some_iff.mp hk').1
    have h1 : (va_pl (g_L (dG X)) (dm X) ++ [(q, e)])[k]? = some (q, dm X q) := by rw [List.getElem?_append_left hl]; exact hk'
    have h2 : (va_pl (g_L (dG X)) (dm X) ++ [(q, e)])[(va_pl (g_L (dG X)) (dm X)).length]? = some (q, e) := by rw [List.getElem?_append_right (Nat.le_refl _), Nat.sub_self]; rfl
    have := hD1.1 _ _ _ _ h1 h2 rfl
    omega
  refine ⟨dlay_new hL hd hq, fun a ha => hA a (Nat.le_trans hz.1 ha), ?_, ?_, vx_Zq.kept z1 hz.2.1, vx_Zq.kept z2 hz.2.1⟩
  · rw [dm_new hL hd hq]; exact hP1
  · rw [dm_new hL hd hq]; exact hD1
theorem dm_at {X : Dw} (hL : dlay X) {i j : Nat} (hd : dd X i j = true) : dm X (g_ad (dG X) i j) = dc X i j := by
  unfold dm
  rw [(hL.1 i j hd).1]
theorem dwM_at {X : Dw} {H : Heap} {s : State} (hw : dwM X H s) {i j : Nat} (hd : dd X i j = true) : ∃ k : Nat, (va_pl (g_L (dG X)) (dm X))[k]? = some (g_ad (dG X) i j, dc X i j) := by
  obtain ⟨k, hk⟩ := va_pl_get (X := []) (f := dm X) (hw.1.1 i j hd).2
  have hk' : (va_pl (g_L (dG X)) (dm X))[k]? = some (g_ad (dG X) i j, dm X (g_ad (dG X) i j)) := hk
  rw [dm_at hw.1 hd] at hk'
  exact ⟨k, hk'⟩
theorem dwM_put {X : Dw} {i j k : Nat} {e : va_E} {H H1 : Heap} {s : State} {locs1 : List Loc} (hw : dwM X H s) (hd : dd X i j = true) (hz : va_S (g_A (dG X)) H H1 locs1) (hk : (va_pl (g_L (dG X)) (dm X))[k]? = some (g_ad (dG X) i j, dc X i j)) (hP1 : va_P (g_dC (dG X), g_dI (dG X)) vwCl ((va_pl (g_L (dG X)) (dm X)).set k (g_ad (dG X) i j, e)) H1) (hD1 : va_D (g_A (dG X)) ((va_pl (g_L (dG X)) (dm X)).set k (g_ad (dG X) i j, e))) : dwM (dP X i j e) H1 s := by
  obtain ⟨hL, hA, hP, hD, z1, z2⟩ := hw
  have e1 : (va_pl (g_L (dG X)) (dm X)).set k (g_ad (dG X) i j, e) = va_pl (g_L (dG X)) (dm (dP X i j e)) := by
    have h9 := va_pl_set (X := []) (e := e) (k := k) hD (hL.1 i j hd).2 (by rw [dm_at hL hd]; exact hk)
    rw [List.nil_append, List.nil_append] at h9
    rw [h9]
    unfold va_pl
    apply List.map_congr_left
    intro a ha
    congr 1
    by_cases z : a = g_ad (dG X) i j
    · subst z
      rw [va_up_self]
      unfold dm
      rw [show g_K (dG (dP X i j e)) (g_ad (dG X) i j) = (i, j) from (hL.1 i j hd).1]
      exact (up2_self _ _ _ _).symm
    · rw [va_up_ne _ _ z]
      unfold dm
      refine (up2_ne _ _ (fun y => z ?_)).symm
      have := (hL.2 a ha).2
      rw [show (g_K (dG X) a).1 = i from y.1, show (g_K (dG X) a).2 = j from y.2] at this
      exact this.symm
  refine ⟨hL, fun a ha => hA a (Nat.le_trans hz.1 ha), ?_, ?_, vx_Zq.kept z1 hz.2.1, vx_Zq.kept z2 hz.2.1⟩
  · show va_P _ _ (va_pl (g_L (dG X)) (dm (dP X i j e))) H1
    rw [← e1]; exact hP1
  · show va_D _ (va_pl (g_L (dG X)) (dm (dP X i j e)))
    rw [← e1]; exact hD1
